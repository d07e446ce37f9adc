theorem eqX_u2 {lo hi : Nat} {σ τ : Sg} {o k : Nat} {v : Int32} (h : eqX lo hi σ τ) : eqX lo hi (uI σ o k v) (uI τ o k v) := fun a ha => ⟨by
  have e := (h a ha).1
  funext b
  show (if a = o then (if b = k then v else τ.1 a b) else τ.1 a b) = (if a = o then (if b = k then v else σ.1 a b) else σ.1 a b)
  rw [e], (h a ha).2⟩
theorem rC_gath {σ τ : Sg} {a : Ab} (h : rC σ a) (hE : eqX 11 17 σ τ) (hS : okStand τ a.1.1 a.1.2) : rC τ a := by
  obtain ⟨r1, r2, r3, r4, r5, r6, r7, r8⟩ := h
  refine ⟨rcP_cong (by rw [(hE 0 (by omega)).1]) (fun i hi => (hE _ (by omega)).1) r1, rcB_cong (fun o h1 h2 => hE o (by omega)) r2, by rw [(hE 0 (by omega)).1]; exact r3, rcT_cong (fun o h1 h2 => (hE o (by omega)).1) r4, rcL_cong (hE 10 (by omega)).1 r5, rcU_cong (hE 4 (by omega)).1 (hE 5 (by omega)).1 r6, ⟨fun _ => hS, ?_, ?_, ?_, ?_⟩, fun o h1 h2 => by rw [(hE o (by omega)).1]; exact r8 o h1 h2⟩
  · rw [(hE 18 (by omega)).1]; exact okLines_cong (fun o h1 h2 => hE o (by omega)) r7.2.1
  · rw [(hE 24 (by omega)).1]; exact okLayers_cong (fun o h1 h2 => hE o (by omega)) r7.2.2.1
  · rw [(hE 26 (by omega)).1]; exact okDepths_cong (fun o h1 h2 => hE o (by omega)) r7.2.2.2.1
  · rw [(hE 29 (by omega)).1]; exact okStrips_cong (fun o h1 h2 => hE o (by omega)) r7.2.2.2.2

theorem c_X10_move {l : Launch} {G : Gx} {d : Nat} {σ : Sg} {Q : Option Value → Sg → Prop} {a : Ab} {x1 x2 x3 : Int32} (hr : rC σ a) (hk : abOk a) (h : ∀ (r : Int32) (τ : Sg), r.toInt = (sMove a x1 x2 x3).1 → rC τ (sMove a x1 x2 x3).2 → eqM σ τ → Q (some (.int r)) τ) : Z l G M_X10_move (d + 2) 0 [some (.ref 0), some (.int x1), some (.int x2), some (.int x3)] [] σ Q := by
  have hg := hr.1.1
  have hn := hk.1
  refine z_sub (L' := [some (.ref 0), some (.int x1), some (.int x2), some (.int x3), none, none, none, none, none]) ⟨rfl, rfl, rfl, rfl, trivial⟩ ?_
  refine z_aload_n (pc := 0) dX10_move_0 rfl ?_
  refine z_iload_n (pc := 1) dX10_move_1 rfl ?_
  refine z_iv1 (pc := 2) dX10_move_2 kv_X10_155 rfl (by decide) (by decide) rfl rfl ?_
  refine c_X10_isGiven (fun q2 => ?_) (fun q2 => ?_)
  · skip
    refine z_if_ne (pc := 5) (tgt := 11) dX10_move_5 rfl (fun _ => ?_) (fun hc => absurd hc (by decide))
    obtain ⟨i, hi, hie⟩ : ∃ i : Nat, i < a.1.1 ∧ x1.toInt = (i : Int) := ⟨x1.toInt.toNat, by omega, by omega⟩
    have hp := hr.1.2 i hi
    have hpk := hk.2.1 i hi
    have h7 := hp.2.2.2.2.2.2.2
    refine z_aload_n (pc := 11) dX10_move_11 rfl ?_
    refine z_getR (pc := 12) (t := 3) dX10_move_12 fk_X10_18 rfl (by decide) (by decide) (by decide) rfl ?_
    refine z_iload_n (pc := 15) dX10_move_15 rfl ?_
    refine z_aaldN (pc := 16) i (t := (65 + i)) dX10_move_16 (Or.inr rfl) (by decide) hie (by show _ < 40; omega) rfl ?_
    refine z_astore (pc := 17) dX10_move_17 rfl rfl (by dsimp only [setI, setL, List.set]) ?_
    refine z_aload (pc := 19) dX10_move_19 rfl ?_
    refine z_getI (pc := 21) dX10_move_21 fk_X10_158 kd_plant (by omega) (by decide) (by decide) ?_
    refine zq_if_ne (pc := 24) (tgt := 33) dX10_move_24 rfl rfl (fun h24 => ?_) (fun h24 => ?_)
    · skip
      have ha := there_of h7 h24
      have b1 := x2.toInt_lt
      have b2 := x2.le_toInt
      have b3 := x3.toInt_lt
      have b4 := x3.le_toInt
      have ex : (σ.1 (65 + i) 0).toInt = (a.1.2 i).1.toInt := by rw [hp.1]
      have ey : (σ.1 (65 + i) 1).toInt = (a.1.2 i).2.1.toInt := by rw [hp.2.1]
      have hq := hpk
      refine z_aload (pc := 33) dX10_move_33 rfl ?_
      refine z_getI (pc := 35) dX10_move_35 fk_X10_159 kd_plant (by omega) (by decide) (by decide) ?_
      refine z_i2lT (pc := 38) dX10_move_38 rfl (fun v38 e38 => ?_)
      refine z_iload_n (pc := 39) dX10_move_39 rfl ?_
      refine z_i2lT (pc := 40) dX10_move_40 rfl (fun v40 e40 => ?_)
      refine z_laddT (pc := 41) dX10_move_41 rfl rfl (by unfold ptOk at hq; omega) (by unfold ptOk at hq; omega) (fun v41 e41 => ?_)
      refine z_lstore (pc := 42) dX10_move_42 rfl rfl (by dsimp only [setI, setL, List.set]) ?_
      refine z_aload (pc := 44) dX10_move_44 rfl ?_
      refine z_getI (pc := 46) dX10_move_46 fk_X10_162 kd_plant (by omega) (by decide) (by decide) ?_
      refine z_i2lT (pc := 49) dX10_move_49 rfl (fun v49 e49 => ?_)
      refine z_iload_n (pc := 50) dX10_move_50 rfl ?_
      refine z_i2lT (pc := 51) dX10_move_51 rfl (fun v51 e51 => ?_)
      refine z_laddT (pc := 52) dX10_move_52 rfl rfl (by unfold ptOk at hq; omega) (by unfold ptOk at hq; omega) (fun v52 e52 => ?_)
      refine z_lstore (pc := 53) dX10_move_53 rfl rfl (by dsimp only [setI, setL, List.set]) ?_
      refine z_lload (pc := 55) dX10_move_55 rfl ?_
      refine z_is1 (pc := 57) dX10_move_57 ks_X10_141 rfl rfl ?_
      refine c_X10_isInField (fun q57 => ?_) (fun q57 => ?_)
      · skip
        refine z_if_eq (pc := 60) (tgt := 71) dX10_move_60 rfl (fun hc => absurd hc (by decide)) (fun _ => ?_)
        refine z_lload (pc := 63) dX10_move_63 rfl ?_
        refine z_is1 (pc := 65) dX10_move_65 ks_X10_141 rfl rfl ?_
        refine c_X10_isInField (fun q65 => ?_) (fun q65 => ?_)
        · skip
          refine z_if_ne (pc := 68) (tgt := 74) dX10_move_68 rfl (fun _ => ?_) (fun hc => absurd hc (by decide))
          refine z_aload_n (pc := 74) dX10_move_74 rfl ?_
          refine z_iload_n (pc := 75) dX10_move_75 rfl ?_
          refine z_iv1 (pc := 76) dX10_move_76 kv_X10_145 rfl (by decide) (by decide) rfl rfl ?_
          refine c_X10_keepForUndo (i := i) (by omega) hie (plC_b hp) ?_
          change Z l G _ _ _ _ _ (kp σ i x1) Q
          refine z_aload (pc := 79) dX10_move_79 rfl ?_
          refine z_lload (pc := 81) dX10_move_81 rfl ?_
          refine z_l2iT (pc := 83) dX10_move_83 rfl (by omega) (by omega) (fun v83 e83 => ?_)
          refine z_putI (pc := 84) dX10_move_84 fk_X10_159 kd_plant (by omega) (by decide) (by decide) ?_
          refine z_aload (pc := 87) dX10_move_87 rfl ?_
          refine z_lload (pc := 89) dX10_move_89 rfl ?_
          refine z_l2iT (pc := 91) dX10_move_91 rfl (by omega) (by omega) (fun v91 e91 => ?_)
          refine z_putI (pc := 92) dX10_move_92 fk_X10_162 kd_plant (by omega) (by decide) (by decide) ?_
          refine z_aload_n (pc := 95) dX10_move_95 rfl ?_
          refine z_iv0 (pc := 96) dX10_move_96 kv_X10_152 rfl (by decide) (by decide) rfl rfl ?_
          refine c_X10_forget ?_
          refine z_aload_n (pc := 99) dX10_move_99 rfl ?_
          refine z_iconst (pc := 100) (v := 1) dX10_move_100 (by decide) ?_
          refine z_iv1 (pc := 101) dX10_move_101 kv_X10_101 rfl (by decide) (by decide) rfl rfl ?_
          refine c_X10_done ?_
          refine z_iret (pc := 104) dX10_move_104 rfl ?_
          have e : sMove a x1 x2 x3 = _ := (sGiv_3 hi hie rfl ha).trans (if_neg (by omega))
          have f1 : v83 = (a.1.2 i).1 + x2 := Int32.toInt_inj.mp (by rw [t32_add] <;> omega)
          have f2 : v91 = (a.1.2 i).2.1 + x3 := Int32.toInt_inj.mp (by rw [t32_add] <;> omega)
          have hrow : ∀ o, o ≠ 65 + i → (uI (uI (kp σ i x1) (65 + i) 0 v83) (65 + i) 1 v91).1 o = (kp σ i x1).1 o := fun o ho => by rw [uI_row ho, uI_row ho]
          refine h _ _ (by rw [e]; rfl) (by
            rw [e]
            refine rC_chg (x := x1) hr hn hi hie (p := ((a.1.2 i).1 + x2, (a.1.2 i).2.1 + x3, (a.1.2 i).2.2)) ?_ hrow rfl
            have kr := kp_row (σ := σ) (i := i) (x := x1) (o := 65 + i) (by omega) (by omega)
            obtain ⟨p1, p2, p3, p4, p5, p6, p7, p8⟩ := hp
            refine ⟨?_, ?_, ?_, ?_, ?_, ?_, ?_, ?_⟩
            · simp (disch := omega) only [uI_row, uI_2, uI_nk, uI_no, uI_eq]; exact f1
            · simp (disch := omega) only [uI_row, uI_2, uI_nk, uI_no, uI_eq]; exact f2
            · simp (disch := omega) only [uI_row, uI_2, uI_nk, uI_no, uI_eq]; rw [kr]; exact p3
            · simp (disch := omega) only [uI_row, uI_2, uI_nk, uI_no, uI_eq]; rw [kr]; exact p4
            · simp (disch := omega) only [uI_row, uI_2, uI_nk, uI_no, uI_eq]; rw [kr]; exact p5
            · simp (disch := omega) only [uI_row, uI_2, uI_nk, uI_no, uI_eq]; rw [kr]; exact p6
            · simp (disch := omega) only [uI_row, uI_2, uI_nk, uI_no, uI_eq]; rw [kr]; exact p7
            · simp (disch := omega) only [uI_row, uI_2, uI_nk, uI_no, uI_eq]; rw [kr]; exact p8) (eqM_uI (fgt_X (eqM_kp hrow rfl)) rfl)
        · skip
          refine z_if_ne (pc := 68) (tgt := 74) dX10_move_68 rfl (fun hc => absurd hc (by decide)) (fun _ => ?_)
          refine z_ldc (pc := 71) dX10_move_71 kc_X10_92 ?_
          refine z_iret (pc := 73) dX10_move_73 rfl ?_
          have e : sMove a x1 x2 x3 = _ := (sGiv_3 hi hie rfl ha).trans (if_pos (by omega))
          exact h _ _ (by rw [e]; rfl) (by rw [e]; exact hr) eqM_rf
      · skip
        refine z_if_eq (pc := 60) (tgt := 71) dX10_move_60 rfl (fun _ => ?_) (fun hc => absurd hc (by decide))
        refine z_ldc (pc := 71) dX10_move_71 kc_X10_92 ?_
        refine z_iret (pc := 73) dX10_move_73 rfl ?_
        have e : sMove a x1 x2 x3 = _ := (sGiv_3 hi hie rfl ha).trans (if_pos (by omega))
        exact h _ _ (by rw [e]; rfl) (by rw [e]; exact hr) eqM_rf
    · skip
      refine z_aload_n (pc := 27) dX10_move_27 rfl ?_
      refine z_iconst (pc := 28) (v := 1) dX10_move_28 (by decide) ?_
      refine z_iv1 (pc := 29) dX10_move_29 kv_X10_93 rfl (by decide) (by decide) rfl rfl ?_
      refine c_X10_found (by decide) (by decide) (fun r er => ?_)
      refine z_iret (pc := 32) dX10_move_32 rfl ?_
      have e : sMove a x1 x2 x3 = _ := sGiv_2 hi hie rfl (away_of h7 h24)
      exact h _ _ (by rw [e, er]; rfl) (by rw [e]; exact rC_stat hr) (eqM_uI eqM_rf rfl)
  · skip
    refine z_if_ne (pc := 5) (tgt := 11) dX10_move_5 rfl (fun hc => absurd hc (by decide)) (fun _ => ?_)
    refine z_ldc (pc := 8) dX10_move_8 kc_X10_92 ?_
    refine z_iret (pc := 10) dX10_move_10 rfl ?_
    have e : sMove a x1 x2 x3 = _ := sGiv_1 (Or.inl (by omega))
    exact h _ _ (by rw [e]; rfl) (by rw [e]; exact hr) eqM_rf

theorem c_X10_away {l : Launch} {G : Gx} {d : Nat} {σ : Sg} {Q : Option Value → Sg → Prop} {a : Ab} {x1 : Int32} (hr : rC σ a) (hk : abOk a) (h : ∀ (r : Int32) (τ : Sg), r.toInt = (sAway a x1).1 → rC τ (sAway a x1).2 → eqM σ τ → Q (some (.int r)) τ) : Z l G M_X10_away (d + 3) 0 [some (.ref 0), some (.int x1)] [] σ Q := by
  have hg := hr.1.1
  have hn := hk.1
  refine z_sub (L' := [some (.ref 0), some (.int x1)]) ⟨rfl, rfl, trivial⟩ ?_
  refine z_aload_n (pc := 0) dX10_away_0 rfl ?_
  refine z_iload_n (pc := 1) dX10_away_1 rfl ?_
  refine z_iv1 (pc := 2) dX10_away_2 kv_X10_155 rfl (by decide) (by decide) rfl rfl ?_
  refine c_X10_isGiven (fun q2 => ?_) (fun q2 => ?_)
  · skip
    refine z_if_ne (pc := 5) (tgt := 11) dX10_away_5 rfl (fun _ => ?_) (fun hc => absurd hc (by decide))
    obtain ⟨i, hi, hie⟩ : ∃ i : Nat, i < a.1.1 ∧ x1.toInt = (i : Int) := ⟨x1.toInt.toNat, by omega, by omega⟩
    have hp := hr.1.2 i hi
    have hpk := hk.2.1 i hi
    have h7 := hp.2.2.2.2.2.2.2
    refine z_aload_n (pc := 11) dX10_away_11 rfl ?_
    refine z_getR (pc := 12) (t := 3) dX10_away_12 fk_X10_18 rfl (by decide) (by decide) (by decide) rfl ?_
    refine z_iload_n (pc := 15) dX10_away_15 rfl ?_
    refine z_aaldN (pc := 16) i (t := (65 + i)) dX10_away_16 (Or.inr rfl) (by decide) hie (by show _ < 40; omega) rfl ?_
    refine z_getI (pc := 17) dX10_away_17 fk_X10_158 kd_plant (by omega) (by decide) (by decide) ?_
    refine zq_if_ne (pc := 20) (tgt := 29) dX10_away_20 rfl rfl (fun h20 => ?_) (fun h20 => ?_)
    · skip
      refine z_aload_n (pc := 29) dX10_away_29 rfl ?_
      refine z_iload_n (pc := 30) dX10_away_30 rfl ?_
      refine z_iv1 (pc := 31) dX10_away_31 kv_X10_145 rfl (by decide) (by decide) rfl rfl ?_
      refine c_X10_keepForUndo (i := i) (by omega) hie (plC_b hp) ?_
      change Z l G _ _ _ _ _ (kp σ i x1) Q
      refine z_aload_n (pc := 34) dX10_away_34 rfl ?_
      refine z_getR (pc := 35) (t := 3) dX10_away_35 fk_X10_18 rfl (by decide) (by decide) (by decide) rfl ?_
      refine z_iload_n (pc := 38) dX10_away_38 rfl ?_
      refine z_aaldN (pc := 39) i (t := (65 + i)) dX10_away_39 (Or.inr rfl) (by decide) hie (by show _ < 40; omega) rfl ?_
      refine z_iconst (pc := 40) (v := 0) dX10_away_40 (by decide) ?_
      refine z_putB (pc := 41) dX10_away_41 fk_X10_158 kd_plant (by omega) (by decide) (by decide) (by decide) ?_
      refine z_aload_n (pc := 44) dX10_away_44 rfl ?_
      refine z_iv0 (pc := 45) dX10_away_45 kv_X10_152 rfl (by decide) (by decide) rfl rfl ?_
      refine c_X10_forget ?_
      refine z_aload_n (pc := 48) dX10_away_48 rfl ?_
      refine z_aload_n (pc := 49) dX10_away_49 rfl ?_
      refine z_iv0 (pc := 50) dX10_away_50 kv_X10_165 rfl (by decide) (by decide) rfl rfl ?_
      have hrow : ∀ o, o ≠ 65 + i → (uI (kp σ i x1) (65 + i) 7 0).1 o = (kp σ i x1).1 o := fun o ho => by rw [uI_row ho]
      have hrc : rC (uI (fgt (uI (kp σ i x1) (65 + i) 7 0)) 0 12 0) (plTo a a.1.1 (va_up a.1.2 i ((a.1.2 i).1, (a.1.2 i).2.1, (a.1.2 i).2.2.1, (a.1.2 i).2.2.2.1, true)) 0 (some (i, false, a.1.2 i))) := by
        refine rC_chg (x := x1) hr hn hi hie (p := ((a.1.2 i).1, (a.1.2 i).2.1, (a.1.2 i).2.2.1, (a.1.2 i).2.2.2.1, true)) ?_ hrow rfl
        have kr := kp_row (σ := σ) (i := i) (x := x1) (o := 65 + i) (by omega) (by omega)
        obtain ⟨p1, p2, p3, p4, p5, p6, p7, p8⟩ := hp
        refine ⟨?_, ?_, ?_, ?_, ?_, ?_, ?_, ?_⟩
        · simp (disch := omega) only [uI_row, uI_2, uI_nk, uI_no, uI_eq]; rw [kr]; exact p1
        · simp (disch := omega) only [uI_row, uI_2, uI_nk, uI_no, uI_eq]; rw [kr]; exact p2
        · simp (disch := omega) only [uI_row, uI_2, uI_nk, uI_no, uI_eq]; rw [kr]; exact p3
        · simp (disch := omega) only [uI_row, uI_2, uI_nk, uI_no, uI_eq]; rw [kr]; exact p4
        · simp (disch := omega) only [uI_row, uI_2, uI_nk, uI_no, uI_eq]; rw [kr]; exact p5
        · simp (disch := omega) only [uI_row, uI_2, uI_nk, uI_no, uI_eq]; rw [kr]; exact p6
        · simp (disch := omega) only [uI_row, uI_2, uI_nk, uI_no, uI_eq]; rw [kr]; exact p7
        · simp (disch := omega) only [uI_row, uI_2, uI_nk, uI_no, uI_eq]; rfl
      refine c_X10_gathered (n := a.1.1) (pt := va_up a.1.2 i ((a.1.2 i).1, (a.1.2 i).2.1, (a.1.2 i).2.2.1, (a.1.2 i).2.2.2.1, true)) hn (rcP_cong (by rw [uI_nk (by omega)]) (fun j _ => by rw [uI_row (by omega)]) hrc.1) (fun z => absurd (by unfold fgt; simp (disch := omega) only [uI_row, uI_2, uI_nk, uI_no, uI_eq]) z) (fun τ hS hkn hE => ?_)
      refine z_getI (pc := 53) dX10_away_53 fk_X10_169 rfl (by decide) (by decide) (by decide) ?_
      refine z_iv1 (pc := 56) dX10_away_56 kv_X10_101 rfl (by decide) (by decide) rfl rfl ?_
      refine c_X10_done ?_
      refine z_iret (pc := 59) dX10_away_59 rfl ?_
      have e : sAway a x1 = _ := sGiv_3 hi hie rfl (there_of h7 h20)
      refine h _ _ (by rw [e]; exact hS.1) (by
        rw [e]
        refine rC_gath hrc (eqX_u2 hE) ?_
        · show okStand _ a.1.1 _
          unfold okStand at hS ⊢
          simp (disch := omega) only [uI_row]
          exact hS) (eqM_uI (eqM_tr (fgt_X (eqM_kp hrow rfl)) (eqX_M hE (by omega) (by omega))) rfl)
    · skip
      refine z_aload_n (pc := 23) dX10_away_23 rfl ?_
      refine z_iconst (pc := 24) (v := 1) dX10_away_24 (by decide) ?_
      refine z_iv1 (pc := 25) dX10_away_25 kv_X10_93 rfl (by decide) (by decide) rfl rfl ?_
      refine c_X10_found (by decide) (by decide) (fun r er => ?_)
      refine z_iret (pc := 28) dX10_away_28 rfl ?_
      have e : sAway a x1 = _ := sGiv_2 hi hie rfl (away_of h7 h20)
      exact h _ _ (by rw [e, er]; rfl) (by rw [e]; exact rC_stat hr) (eqM_uI eqM_rf rfl)
  · skip
    refine z_if_ne (pc := 5) (tgt := 11) dX10_away_5 rfl (fun hc => absurd hc (by decide)) (fun _ => ?_)
    refine z_ldc (pc := 8) dX10_away_8 kc_X10_92 ?_
    refine z_iret (pc := 10) dX10_away_10 rfl ?_
    have e : sAway a x1 = _ := sGiv_1 (Or.inl (by omega))
    exact h _ _ (by rw [e]; rfl) (by rw [e]; exact hr) eqM_rf

theorem c_X10_colour {l : Launch} {G : Gx} {d : Nat} {σ : Sg} {Q : Option Value → Sg → Prop} {a : Ab} {x1 x2 : Int32} (hr : rC σ a) (hk : abOk a) (h : ∀ (r : Int32) (τ : Sg), r.toInt = (sColour a x1 x2).1 → rC τ (sColour a x1 x2).2 → eqM σ τ → Q (some (.int r)) τ) : Z l G M_X10_colour (d + 8) 0 [some (.ref 0), some (.int x1), some (.int x2)] [] σ Q := by
  have hg := hr.1.1
  have hn := hk.1
  refine z_sub (L' := [some (.ref 0), some (.int x1), some (.int x2), none, none]) ⟨rfl, rfl, rfl, trivial⟩ ?_
  refine z_aload_n (pc := 0) dX10_colour_0 rfl ?_
  refine z_iload_n (pc := 1) dX10_colour_1 rfl ?_
  refine z_iv1 (pc := 2) dX10_colour_2 kv_X10_155 rfl (by decide) (by decide) rfl rfl ?_
  refine c_X10_isGiven (fun q2 => ?_) (fun q2 => ?_)
  · skip
    refine z_if_eq (pc := 5) (tgt := 16) dX10_colour_5 rfl (fun hc => absurd hc (by decide)) (fun _ => ?_)
    refine z_iload_n (pc := 8) dX10_colour_8 rfl ?_
    refine z_iconst (pc := 9) (v := 3) dX10_colour_9 (by decide) ?_
    refine z_is2 (pc := 10) dX10_colour_10 ks_X10_88 rfl rfl ?_
    refine c_X10_isBelow (b := 3) (fun q10 => ?_) (fun q10 => ?_)
    · skip
      refine z_if_ne (pc := 13) (tgt := 19) dX10_colour_13 rfl (fun _ => ?_) (fun hc => absurd hc (by decide))
      obtain ⟨i, hi, hie⟩ : ∃ i : Nat, i < a.1.1 ∧ x1.toInt = (i : Int) := ⟨x1.toInt.toNat, by omega, by omega⟩
      have hp := hr.1.2 i hi
      have hpk := hk.2.1 i hi
      have h7 := hp.2.2.2.2.2.2.2
      have h3 : (3 : Int32).toInt = 3 := rfl
      have hgd : in03 x2.toInt 3 = true := decide_eq_true (by omega)
      refine z_aload_n (pc := 19) dX10_colour_19 rfl ?_
      refine z_getR (pc := 20) (t := 3) dX10_colour_20 fk_X10_18 rfl (by decide) (by decide) (by decide) rfl ?_
      refine z_iload_n (pc := 23) dX10_colour_23 rfl ?_
      refine z_aaldN (pc := 24) i (t := (65 + i)) dX10_colour_24 (Or.inr rfl) (by decide) hie (by show _ < 40; omega) rfl ?_
      refine z_astore_n (pc := 25) dX10_colour_25 rfl rfl (by dsimp only [setI, setL, List.set]) ?_
      refine z_aload_n (pc := 26) dX10_colour_26 rfl ?_
      refine z_getI (pc := 27) dX10_colour_27 fk_X10_158 kd_plant (by omega) (by decide) (by decide) ?_
      refine zq_if_ne (pc := 30) (tgt := 39) dX10_colour_30 rfl rfl (fun h30 => ?_) (fun h30 => ?_)
      · skip
        have ha := there_of h7 h30
        have ek : (σ.1 (65 + i) 2).toInt = (a.1.2 i).2.2.1.toInt := by rw [hp.2.2.1]
        refine z_aload_n (pc := 39) dX10_colour_39 rfl ?_
        refine z_getI (pc := 40) dX10_colour_40 fk_X10_172 kd_plant (by omega) (by decide) (by decide) ?_
        refine z_iconst (pc := 43) (v := 4) dX10_colour_43 (by decide) ?_
        refine zq_icmp_eq (pc := 44) (cy := 4) (tgt := 53) dX10_colour_44 rfl rfl (by decide) (fun h44 => ?_) (fun h44 => ?_)
        · skip
          refine z_aload_n (pc := 53) dX10_colour_53 rfl ?_
          refine z_getI (pc := 54) dX10_colour_54 fk_X10_175 kd_plant (by omega) (by decide) (by decide) ?_
          refine z_istore (pc := 57) dX10_colour_57 rfl rfl (by dsimp only [setI, setL, List.set]) ?_
          refine z_aload_n (pc := 59) dX10_colour_59 rfl ?_
          refine z_iload_n (pc := 60) dX10_colour_60 rfl ?_
          refine z_iv1 (pc := 61) dX10_colour_61 kv_X10_145 rfl (by decide) (by decide) rfl rfl ?_
          refine c_X10_keepForUndo (i := i) (by omega) hie (plC_b hp) ?_
          change Z l G _ _ _ _ _ (kp σ i x1) Q
          refine z_aload_n (pc := 64) dX10_colour_64 rfl ?_
          refine z_iload_n (pc := 65) dX10_colour_65 rfl ?_
          refine z_aload_n (pc := 66) dX10_colour_66 rfl ?_
          refine z_getR (pc := 67) (t := 8) dX10_colour_67 fk_X10_39 rfl (by decide) (by decide) (by decide) rfl ?_
          refine z_iv2 (pc := 70) dX10_colour_70 kv_X10_178 kd_plant (by omega) (by decide) rfl rfl ?_
          have kr := kp_row (σ := σ) (i := i) (x := x1) (o := 65 + i) (by omega) (by omega)
          have k8 := kp_row (σ := σ) (i := i) (x := x1) (o := 8) (by omega) (by omega)
          have t8 := hr.2.2.2.1.2.2
          have e2 : ((kp σ i x1).1 (65 + i) 2) = (a.1.2 i).2.2.1 := by rw [kr]; exact hp.2.2.1
          have e8 : ((kp σ i x1).1 8 1) = 0 := by rw [k8]; exact t8
          refine c_X6_paint kd_plant (by omega) (by omega) (by omega) (by omega) ⟨by rw [e8]; decide, by rw [e8]; decide⟩ (by rw [e2]; exact hpk.2.2.2.2.1) (by rw [e2]; exact hpk.2.2.2.2.2.1) (fun rr rb ra err erb era => ?_)
          rw [e2] at err erb era
          refine z_aload_n (pc := 73) dX10_colour_73 rfl ?_
          refine z_iv0 (pc := 74) dX10_colour_74 kv_X10_152 rfl (by decide) (by decide) rfl rfl ?_
          refine c_X10_forget ?_
          refine z_aload_n (pc := 77) dX10_colour_77 rfl ?_
          refine z_iload (pc := 78) dX10_colour_78 rfl ?_
          refine z_iv1 (pc := 80) dX10_colour_80 kv_X10_101 rfl (by decide) (by decide) rfl rfl ?_
          refine c_X10_done ?_
          refine z_iret (pc := 83) dX10_colour_83 rfl ?_
          have e : sColour a x1 x2 = _ := (sGiv_3 hi hie hgd ha).trans (if_neg (by omega))
          have hrow : ∀ o, o ≠ 65 + i → (uI (uI (uI (uI (kp σ i x1) (65 + i) 3 x2) (65 + i) 4 rr) (65 + i) 5 rb) (65 + i) 6 ra).1 o = (kp σ i x1).1 o := fun o ho => by rw [uI_row ho, uI_row ho, uI_row ho, uI_row ho]
          refine h _ _ (by rw [e, hp.2.2.2.1]) (by
            rw [e]
            refine rC_chg (x := x1) hr hn hi hie (p := ((a.1.2 i).1, (a.1.2 i).2.1, (a.1.2 i).2.2.1, x2, (a.1.2 i).2.2.2.2)) ?_ hrow rfl
            obtain ⟨p1, p2, p3, p4, p5, p6, p7, p8⟩ := hp
            refine ⟨?_, ?_, ?_, ?_, ?_, ?_, ?_, ?_⟩
            · simp (disch := omega) only [uI_row, uI_2, uI_nk, uI_no, uI_eq]; rw [kr]; exact p1
            · simp (disch := omega) only [uI_row, uI_2, uI_nk, uI_no, uI_eq]; rw [kr]; exact p2
            · simp (disch := omega) only [uI_row, uI_2, uI_nk, uI_no, uI_eq]; rw [kr]; exact p3
            · simp (disch := omega) only [uI_row, uI_2, uI_nk, uI_no, uI_eq]
            · simp (disch := omega) only [uI_row, uI_2, uI_nk, uI_no, uI_eq]; exact err
            · simp (disch := omega) only [uI_row, uI_2, uI_nk, uI_no, uI_eq]; exact erb
            · simp (disch := omega) only [uI_row, uI_2, uI_nk, uI_no, uI_eq]; exact era
            · simp (disch := omega) only [uI_row, uI_2, uI_nk, uI_no, uI_eq]; rw [kr]; exact p8) (eqM_uI (fgt_X (eqM_kp hrow rfl)) rfl)
        · skip
          refine z_aload_n (pc := 47) dX10_colour_47 rfl ?_
          refine z_iconst (pc := 48) (v := 3) dX10_colour_48 (by decide) ?_
          refine z_iv1 (pc := 49) dX10_colour_49 kv_X10_93 rfl (by decide) (by decide) rfl rfl ?_
          refine c_X10_found (by decide) (by decide) (fun r er => ?_)
          refine z_iret (pc := 52) dX10_colour_52 rfl ?_
          have e : sColour a x1 x2 = _ := (sGiv_3 hi hie hgd ha).trans (if_pos (by omega))
          exact h _ _ (by rw [e, er]; rfl) (by rw [e]; exact rC_stat hr) (eqM_uI eqM_rf rfl)
      · skip
        refine z_aload_n (pc := 33) dX10_colour_33 rfl ?_
        refine z_iconst (pc := 34) (v := 1) dX10_colour_34 (by decide) ?_
        refine z_iv1 (pc := 35) dX10_colour_35 kv_X10_93 rfl (by decide) (by decide) rfl rfl ?_
        refine c_X10_found (by decide) (by decide) (fun r er => ?_)
        refine z_iret (pc := 38) dX10_colour_38 rfl ?_
        have e : sColour a x1 x2 = _ := sGiv_2 hi hie hgd (away_of h7 h30)
        exact h _ _ (by rw [e, er]; rfl) (by rw [e]; exact rC_stat hr) (eqM_uI eqM_rf rfl)
    · skip
      refine z_if_ne (pc := 13) (tgt := 19) dX10_colour_13 rfl (fun hc => absurd hc (by decide)) (fun _ => ?_)
      refine z_ldc (pc := 16) dX10_colour_16 kc_X10_92 ?_
      refine z_iret (pc := 18) dX10_colour_18 rfl ?_
      have h3 : (3 : Int32).toInt = 3 := rfl
      have hor : ¬ (0 ≤ x1.toInt ∧ x1.toInt < (a.1.1 : Int)) ∨ in03 x2.toInt 3 = false := by first | exact Or.inl (by omega) | exact Or.inr (decide_eq_false (by omega))
      have e : sColour a x1 x2 = _ := sGiv_1 hor
      exact h _ _ (by rw [e]; rfl) (by rw [e]; exact hr) eqM_rf
  · skip
    refine z_if_eq (pc := 5) (tgt := 16) dX10_colour_5 rfl (fun _ => ?_) (fun hc => absurd hc (by decide))
    refine z_ldc (pc := 16) dX10_colour_16 kc_X10_92 ?_
    refine z_iret (pc := 18) dX10_colour_18 rfl ?_
    have h3 : (3 : Int32).toInt = 3 := rfl
    have hor : ¬ (0 ≤ x1.toInt ∧ x1.toInt < (a.1.1 : Int)) ∨ in03 x2.toInt 3 = false := by first | exact Or.inl (by omega) | exact Or.inr (decide_eq_false (by omega))
    have e : sColour a x1 x2 = _ := sGiv_1 hor
    exact h _ _ (by rw [e]; rfl) (by rw [e]; exact hr) eqM_rf

/-- the kinds that a kind is, too -/
theorem isOf_0 {w : Int} (h : 0 ≤ w) (h5 : w < 5) : isOf 0 w = decide (w = 0) := by
  unfold isOf; congr 1; simp; omega

theorem c_isOf0 {l : Launch} {G : Gx} {d : Nat} {σ : Sg} {Q : Option Value → Sg → Prop} {o : Nat} {w : Int32} (ho : kd o = 6) (hn : o < 105) (ek : σ.1 o 2 = 0) (ht : (w.toInt = 0) → Q (some (.int 1)) σ) (hf : ¬ (w.toInt = 0) → Q (some (.int 0)) σ) : Z l G M_X6_isOf (d + 1) 0 [some (.ref o), some (.int w)] [] σ Q := by
  refine z_sub (L' := [some (.ref o), some (.int w), none, none]) ⟨rfl, rfl, trivial⟩ ?_
  refine z_aload_n (pc := 0) dX6_isOf_0 rfl ?_
  refine z_getI (pc := 1) dX6_isOf_1 fk_X6_18 ho hn (by decide) (by decide) ?_
  rw [ek]
  refine z_istore_n (pc := 4) dX6_isOf_4 rfl rfl (by dsimp only [setI, setL, List.set]) ?_
  refine z_iconst (pc := 5) (v := 0) dX6_isOf_5 (by decide) ?_
  refine z_istore_n (pc := 6) dX6_isOf_6 rfl rfl (by dsimp only [setI, setL, List.set]) ?_
  refine z_iload_n (pc := 7) dX6_isOf_7 rfl ?_
  refine z_iconst (pc := 8) (v := 5) dX6_isOf_8 (by decide) ?_
  refine zq_icmp_ge (pc := 9) (cx := 0) (cy := 5) (tgt := 39) dX6_isOf_9 rfl (by first | decide | omega) (by decide) (fun hc => absurd hc (by decide)) (fun _ => ?_)
  refine z_iload_n (pc := 12) dX6_isOf_12 rfl ?_
  refine z_iconst (pc := 13) (v := 5) dX6_isOf_13 (by decide) ?_
  refine z_is2 (pc := 14) dX6_isOf_14 ks_X6_45 rfl rfl ?_
  refine c_X10_isBelow (fun _ => ?_) (fun q => absurd (by decide) q)
  refine z_if_eq (pc := 17) (tgt := 39) dX6_isOf_17 rfl (fun hc => absurd hc (by decide)) (fun _ => ?_)
  refine z_iload_n (pc := 20) dX6_isOf_20 rfl ?_
  refine z_iload_n (pc := 21) dX6_isOf_21 rfl ?_
  refine zq_icmp_ne (pc := 22) (cx := 0) (tgt := 27) dX6_isOf_22 rfl (by decide) rfl (fun hh0 => ?_) (fun hh0 => ?_)
  rotate_left
  · refine z_iconst (pc := 25) (v := 1) dX6_isOf_25 (by decide) ?_
    refine z_zret (pc := 26) dX6_isOf_26 rfl (by decide) ?_
    exact ht (by omega)
  refine z_getsIs (pc := 27) dX6_isOf_27 kg_X6_49 ?_
  refine z_iload_n (pc := 30) dX6_isOf_30 rfl ?_
  refine z_roaldN (pc := 31) 0 dX6_isOf_31 (by decide) (by decide) (by decide) (by show _ < 5; decide) ?_
  rw [show roc G 106 0 = -1 from rfl]
  refine z_istore_n (pc := 32) dX6_isOf_32 rfl rfl (by dsimp only [setI, setL, List.set]) ?_
  refine z_iincT (pc := 33) (cx := 0) dX6_isOf_33 rfl (by first | decide | omega) (by decide) (by decide) (by decide) (by decide) rfl rfl (fun v => by dsimp only [setI, setL, List.set]) (fun v0 e0 => ?_)
  refine z_goto (pc := 36) (tgt := 7) dX6_isOf_36 rfl ?_
  refine z_iload_n (pc := 7) dX6_isOf_7 rfl ?_
  refine z_iconst (pc := 8) (v := 5) dX6_isOf_8 (by decide) ?_
  refine zq_icmp_ge (pc := 9) (cx := 1) (cy := 5) (tgt := 39) dX6_isOf_9 rfl (by first | decide | omega) (by decide) (fun hc => absurd hc (by decide)) (fun _ => ?_)
  refine z_iload_n (pc := 12) dX6_isOf_12 rfl ?_
  refine z_iconst (pc := 13) (v := 5) dX6_isOf_13 (by decide) ?_
  refine z_is2 (pc := 14) dX6_isOf_14 ks_X6_45 rfl rfl ?_
  refine c_X10_isBelow (fun q => absurd q (by decide)) (fun _ => ?_)
  refine z_if_eq (pc := 17) (tgt := 39) dX6_isOf_17 rfl (fun _ => ?_) (fun hc => absurd rfl hc)
  refine z_iconst (pc := 39) (v := 0) dX6_isOf_39 (by decide) ?_
  refine z_zret (pc := 40) dX6_isOf_40 rfl (by decide) ?_
  exact hf (by omega)

theorem c_isOf1 {l : Launch} {G : Gx} {d : Nat} {σ : Sg} {Q : Option Value → Sg → Prop} {o : Nat} {w : Int32} (ho : kd o = 6) (hn : o < 105) (ek : σ.1 o 2 = 1) (ht : (w.toInt = 1 ∨ w.toInt = 0) → Q (some (.int 1)) σ) (hf : ¬ (w.toInt = 1 ∨ w.toInt = 0) → Q (some (.int 0)) σ) : Z l G M_X6_isOf (d + 1) 0 [some (.ref o), some (.int w)] [] σ Q := by
  refine z_sub (L' := [some (.ref o), some (.int w), none, none]) ⟨rfl, rfl, trivial⟩ ?_
  refine z_aload_n (pc := 0) dX6_isOf_0 rfl ?_
  refine z_getI (pc := 1) dX6_isOf_1 fk_X6_18 ho hn (by decide) (by decide) ?_
  rw [ek]
  refine z_istore_n (pc := 4) dX6_isOf_4 rfl rfl (by dsimp only [setI, setL, List.set]) ?_
  refine z_iconst (pc := 5) (v := 0) dX6_isOf_5 (by decide) ?_
  refine z_istore_n (pc := 6) dX6_isOf_6 rfl rfl (by dsimp only [setI, setL, List.set]) ?_
  refine z_iload_n (pc := 7) dX6_isOf_7 rfl ?_
  refine z_iconst (pc := 8) (v := 5) dX6_isOf_8 (by decide) ?_
  refine zq_icmp_ge (pc := 9) (cx := 0) (cy := 5) (tgt := 39) dX6_isOf_9 rfl (by first | decide | omega) (by decide) (fun hc => absurd hc (by decide)) (fun _ => ?_)
  refine z_iload_n (pc := 12) dX6_isOf_12 rfl ?_
  refine z_iconst (pc := 13) (v := 5) dX6_isOf_13 (by decide) ?_
  refine z_is2 (pc := 14) dX6_isOf_14 ks_X6_45 rfl rfl ?_
  refine c_X10_isBelow (fun _ => ?_) (fun q => absurd (by decide) q)
  refine z_if_eq (pc := 17) (tgt := 39) dX6_isOf_17 rfl (fun hc => absurd hc (by decide)) (fun _ => ?_)
  refine z_iload_n (pc := 20) dX6_isOf_20 rfl ?_
  refine z_iload_n (pc := 21) dX6_isOf_21 rfl ?_
  refine zq_icmp_ne (pc := 22) (cx := 1) (tgt := 27) dX6_isOf_22 rfl (by decide) rfl (fun hh0 => ?_) (fun hh0 => ?_)
  rotate_left
  · refine z_iconst (pc := 25) (v := 1) dX6_isOf_25 (by decide) ?_
    refine z_zret (pc := 26) dX6_isOf_26 rfl (by decide) ?_
    exact ht (by omega)
  refine z_getsIs (pc := 27) dX6_isOf_27 kg_X6_49 ?_
  refine z_iload_n (pc := 30) dX6_isOf_30 rfl ?_
  refine z_roaldN (pc := 31) 1 dX6_isOf_31 (by decide) (by decide) (by decide) (by show _ < 5; decide) ?_
  rw [show roc G 106 1 = 0 from rfl]
  refine z_istore_n (pc := 32) dX6_isOf_32 rfl rfl (by dsimp only [setI, setL, List.set]) ?_
  refine z_iincT (pc := 33) (cx := 0) dX6_isOf_33 rfl (by first | decide | omega) (by decide) (by decide) (by decide) (by decide) rfl rfl (fun v => by dsimp only [setI, setL, List.set]) (fun v0 e0 => ?_)
  refine z_goto (pc := 36) (tgt := 7) dX6_isOf_36 rfl ?_
  refine z_iload_n (pc := 7) dX6_isOf_7 rfl ?_
  refine z_iconst (pc := 8) (v := 5) dX6_isOf_8 (by decide) ?_
  refine zq_icmp_ge (pc := 9) (cx := 1) (cy := 5) (tgt := 39) dX6_isOf_9 rfl (by first | decide | omega) (by decide) (fun hc => absurd hc (by decide)) (fun _ => ?_)
  refine z_iload_n (pc := 12) dX6_isOf_12 rfl ?_
  refine z_iconst (pc := 13) (v := 5) dX6_isOf_13 (by decide) ?_
  refine z_is2 (pc := 14) dX6_isOf_14 ks_X6_45 rfl rfl ?_
  refine c_X10_isBelow (fun _ => ?_) (fun q => absurd (by decide) q)
  refine z_if_eq (pc := 17) (tgt := 39) dX6_isOf_17 rfl (fun hc => absurd hc (by decide)) (fun _ => ?_)
  refine z_iload_n (pc := 20) dX6_isOf_20 rfl ?_
  refine z_iload_n (pc := 21) dX6_isOf_21 rfl ?_
  refine zq_icmp_ne (pc := 22) (cx := 0) (tgt := 27) dX6_isOf_22 rfl (by decide) rfl (fun hh1 => ?_) (fun hh1 => ?_)
  rotate_left
  · refine z_iconst (pc := 25) (v := 1) dX6_isOf_25 (by decide) ?_
    refine z_zret (pc := 26) dX6_isOf_26 rfl (by decide) ?_
    exact ht (by omega)
  refine z_getsIs (pc := 27) dX6_isOf_27 kg_X6_49 ?_
  refine z_iload_n (pc := 30) dX6_isOf_30 rfl ?_
  refine z_roaldN (pc := 31) 0 dX6_isOf_31 (by decide) (by decide) (by decide) (by show _ < 5; decide) ?_
  rw [show roc G 106 0 = -1 from rfl]
  refine z_istore_n (pc := 32) dX6_isOf_32 rfl rfl (by dsimp only [setI, setL, List.set]) ?_
  refine z_iincT (pc := 33) (cx := 1) dX6_isOf_33 rfl (by first | decide | omega) (by decide) (by decide) (by decide) (by decide) rfl rfl (fun v => by dsimp only [setI, setL, List.set]) (fun v1 e1 => ?_)
  refine z_goto (pc := 36) (tgt := 7) dX6_isOf_36 rfl ?_
  refine z_iload_n (pc := 7) dX6_isOf_7 rfl ?_
  refine z_iconst (pc := 8) (v := 5) dX6_isOf_8 (by decide) ?_
  refine zq_icmp_ge (pc := 9) (cx := 2) (cy := 5) (tgt := 39) dX6_isOf_9 rfl (by first | decide | omega) (by decide) (fun hc => absurd hc (by decide)) (fun _ => ?_)
  refine z_iload_n (pc := 12) dX6_isOf_12 rfl ?_
  refine z_iconst (pc := 13) (v := 5) dX6_isOf_13 (by decide) ?_
  refine z_is2 (pc := 14) dX6_isOf_14 ks_X6_45 rfl rfl ?_
  refine c_X10_isBelow (fun q => absurd q (by decide)) (fun _ => ?_)
  refine z_if_eq (pc := 17) (tgt := 39) dX6_isOf_17 rfl (fun _ => ?_) (fun hc => absurd rfl hc)
  refine z_iconst (pc := 39) (v := 0) dX6_isOf_39 (by decide) ?_
  refine z_zret (pc := 40) dX6_isOf_40 rfl (by decide) ?_
  exact hf (by omega)

theorem c_isOf2 {l : Launch} {G : Gx} {d : Nat} {σ : Sg} {Q : Option Value → Sg → Prop} {o : Nat} {w : Int32} (ho : kd o = 6) (hn : o < 105) (ek : σ.1 o 2 = 2) (ht : (w.toInt = 2 ∨ w.toInt = 0) → Q (some (.int 1)) σ) (hf : ¬ (w.toInt = 2 ∨ w.toInt = 0) → Q (some (.int 0)) σ) : Z l G M_X6_isOf (d + 1) 0 [some (.ref o), some (.int w)] [] σ Q := by
  refine z_sub (L' := [some (.ref o), some (.int w), none, none]) ⟨rfl, rfl, trivial⟩ ?_
  refine z_aload_n (pc := 0) dX6_isOf_0 rfl ?_
  refine z_getI (pc := 1) dX6_isOf_1 fk_X6_18 ho hn (by decide) (by decide) ?_
  rw [ek]
  refine z_istore_n (pc := 4) dX6_isOf_4 rfl rfl (by dsimp only [setI, setL, List.set]) ?_
  refine z_iconst (pc := 5) (v := 0) dX6_isOf_5 (by decide) ?_
  refine z_istore_n (pc := 6) dX6_isOf_6 rfl rfl (by dsimp only [setI, setL, List.set]) ?_
  refine z_iload_n (pc := 7) dX6_isOf_7 rfl ?_
  refine z_iconst (pc := 8) (v := 5) dX6_isOf_8 (by decide) ?_
  refine zq_icmp_ge (pc := 9) (cx := 0) (cy := 5) (tgt := 39) dX6_isOf_9 rfl (by first | decide | omega) (by decide) (fun hc => absurd hc (by decide)) (fun _ => ?_)
  refine z_iload_n (pc := 12) dX6_isOf_12 rfl ?_
  refine z_iconst (pc := 13) (v := 5) dX6_isOf_13 (by decide) ?_
  refine z_is2 (pc := 14) dX6_isOf_14 ks_X6_45 rfl rfl ?_
  refine c_X10_isBelow (fun _ => ?_) (fun q => absurd (by decide) q)
  refine z_if_eq (pc := 17) (tgt := 39) dX6_isOf_17 rfl (fun hc => absurd hc (by decide)) (fun _ => ?_)
  refine z_iload_n (pc := 20) dX6_isOf_20 rfl ?_
  refine z_iload_n (pc := 21) dX6_isOf_21 rfl ?_
  refine zq_icmp_ne (pc := 22) (cx := 2) (tgt := 27) dX6_isOf_22 rfl (by decide) rfl (fun hh0 => ?_) (fun hh0 => ?_)
  rotate_left
  · refine z_iconst (pc := 25) (v := 1) dX6_isOf_25 (by decide) ?_
    refine z_zret (pc := 26) dX6_isOf_26 rfl (by decide) ?_
    exact ht (by omega)
  refine z_getsIs (pc := 27) dX6_isOf_27 kg_X6_49 ?_
  refine z_iload_n (pc := 30) dX6_isOf_30 rfl ?_
  refine z_roaldN (pc := 31) 2 dX6_isOf_31 (by decide) (by decide) (by decide) (by show _ < 5; decide) ?_
  rw [show roc G 106 2 = 0 from rfl]
  refine z_istore_n (pc := 32) dX6_isOf_32 rfl rfl (by dsimp only [setI, setL, List.set]) ?_
  refine z_iincT (pc := 33) (cx := 0) dX6_isOf_33 rfl (by first | decide | omega) (by decide) (by decide) (by decide) (by decide) rfl rfl (fun v => by dsimp only [setI, setL, List.set]) (fun v0 e0 => ?_)
  refine z_goto (pc := 36) (tgt := 7) dX6_isOf_36 rfl ?_
  refine z_iload_n (pc := 7) dX6_isOf_7 rfl ?_
  refine z_iconst (pc := 8) (v := 5) dX6_isOf_8 (by decide) ?_
  refine zq_icmp_ge (pc := 9) (cx := 1) (cy := 5) (tgt := 39) dX6_isOf_9 rfl (by first | decide | omega) (by decide) (fun hc => absurd hc (by decide)) (fun _ => ?_)
  refine z_iload_n (pc := 12) dX6_isOf_12 rfl ?_
  refine z_iconst (pc := 13) (v := 5) dX6_isOf_13 (by decide) ?_
  refine z_is2 (pc := 14) dX6_isOf_14 ks_X6_45 rfl rfl ?_
  refine c_X10_isBelow (fun _ => ?_) (fun q => absurd (by decide) q)
  refine z_if_eq (pc := 17) (tgt := 39) dX6_isOf_17 rfl (fun hc => absurd hc (by decide)) (fun _ => ?_)
  refine z_iload_n (pc := 20) dX6_isOf_20 rfl ?_
  refine z_iload_n (pc := 21) dX6_isOf_21 rfl ?_
  refine zq_icmp_ne (pc := 22) (cx := 0) (tgt := 27) dX6_isOf_22 rfl (by decide) rfl (fun hh1 => ?_) (fun hh1 => ?_)
  rotate_left
  · refine z_iconst (pc := 25) (v := 1) dX6_isOf_25 (by decide) ?_
    refine z_zret (pc := 26) dX6_isOf_26 rfl (by decide) ?_
    exact ht (by omega)
  refine z_getsIs (pc := 27) dX6_isOf_27 kg_X6_49 ?_
  refine z_iload_n (pc := 30) dX6_isOf_30 rfl ?_
  refine z_roaldN (pc := 31) 0 dX6_isOf_31 (by decide) (by decide) (by decide) (by show _ < 5; decide) ?_
  rw [show roc G 106 0 = -1 from rfl]
  refine z_istore_n (pc := 32) dX6_isOf_32 rfl rfl (by dsimp only [setI, setL, List.set]) ?_
  refine z_iincT (pc := 33) (cx := 1) dX6_isOf_33 rfl (by first | decide | omega) (by decide) (by decide) (by decide) (by decide) rfl rfl (fun v => by dsimp only [setI, setL, List.set]) (fun v1 e1 => ?_)
  refine z_goto (pc := 36) (tgt := 7) dX6_isOf_36 rfl ?_
  refine z_iload_n (pc := 7) dX6_isOf_7 rfl ?_
  refine z_iconst (pc := 8) (v := 5) dX6_isOf_8 (by decide) ?_
  refine zq_icmp_ge (pc := 9) (cx := 2) (cy := 5) (tgt := 39) dX6_isOf_9 rfl (by first | decide | omega) (by decide) (fun hc => absurd hc (by decide)) (fun _ => ?_)
  refine z_iload_n (pc := 12) dX6_isOf_12 rfl ?_
  refine z_iconst (pc := 13) (v := 5) dX6_isOf_13 (by decide) ?_
  refine z_is2 (pc := 14) dX6_isOf_14 ks_X6_45 rfl rfl ?_
  refine c_X10_isBelow (fun q => absurd q (by decide)) (fun _ => ?_)
  refine z_if_eq (pc := 17) (tgt := 39) dX6_isOf_17 rfl (fun _ => ?_) (fun hc => absurd rfl hc)
  refine z_iconst (pc := 39) (v := 0) dX6_isOf_39 (by decide) ?_
  refine z_zret (pc := 40) dX6_isOf_40 rfl (by decide) ?_
  exact hf (by omega)

theorem c_isOf3 {l : Launch} {G : Gx} {d : Nat} {σ : Sg} {Q : Option Value → Sg → Prop} {o : Nat} {w : Int32} (ho : kd o = 6) (hn : o < 105) (ek : σ.1 o 2 = 3) (ht : (w.toInt = 3 ∨ w.toInt = 1 ∨ w.toInt = 0) → Q (some (.int 1)) σ) (hf : ¬ (w.toInt = 3 ∨ w.toInt = 1 ∨ w.toInt = 0) → Q (some (.int 0)) σ) : Z l G M_X6_isOf (d + 1) 0 [some (.ref o), some (.int w)] [] σ Q := by
  refine z_sub (L' := [some (.ref o), some (.int w), none, none]) ⟨rfl, rfl, trivial⟩ ?_
  refine z_aload_n (pc := 0) dX6_isOf_0 rfl ?_
  refine z_getI (pc := 1) dX6_isOf_1 fk_X6_18 ho hn (by decide) (by decide) ?_
  rw [ek]
  refine z_istore_n (pc := 4) dX6_isOf_4 rfl rfl (by dsimp only [setI, setL, List.set]) ?_
  refine z_iconst (pc := 5) (v := 0) dX6_isOf_5 (by decide) ?_
  refine z_istore_n (pc := 6) dX6_isOf_6 rfl rfl (by dsimp only [setI, setL, List.set]) ?_
  refine z_iload_n (pc := 7) dX6_isOf_7 rfl ?_
  refine z_iconst (pc := 8) (v := 5) dX6_isOf_8 (by decide) ?_
  refine zq_icmp_ge (pc := 9) (cx := 0) (cy := 5) (tgt := 39) dX6_isOf_9 rfl (by first | decide | omega) (by decide) (fun hc => absurd hc (by decide)) (fun _ => ?_)
  refine z_iload_n (pc := 12) dX6_isOf_12 rfl ?_
  refine z_iconst (pc := 13) (v := 5) dX6_isOf_13 (by decide) ?_
  refine z_is2 (pc := 14) dX6_isOf_14 ks_X6_45 rfl rfl ?_
  refine c_X10_isBelow (fun _ => ?_) (fun q => absurd (by decide) q)
  refine z_if_eq (pc := 17) (tgt := 39) dX6_isOf_17 rfl (fun hc => absurd hc (by decide)) (fun _ => ?_)
  refine z_iload_n (pc := 20) dX6_isOf_20 rfl ?_
  refine z_iload_n (pc := 21) dX6_isOf_21 rfl ?_
  refine zq_icmp_ne (pc := 22) (cx := 3) (tgt := 27) dX6_isOf_22 rfl (by decide) rfl (fun hh0 => ?_) (fun hh0 => ?_)
  rotate_left
  · refine z_iconst (pc := 25) (v := 1) dX6_isOf_25 (by decide) ?_
    refine z_zret (pc := 26) dX6_isOf_26 rfl (by decide) ?_
    exact ht (by omega)
  refine z_getsIs (pc := 27) dX6_isOf_27 kg_X6_49 ?_
  refine z_iload_n (pc := 30) dX6_isOf_30 rfl ?_
  refine z_roaldN (pc := 31) 3 dX6_isOf_31 (by decide) (by decide) (by decide) (by show _ < 5; decide) ?_
  rw [show roc G 106 3 = 1 from rfl]
  refine z_istore_n (pc := 32) dX6_isOf_32 rfl rfl (by dsimp only [setI, setL, List.set]) ?_
  refine z_iincT (pc := 33) (cx := 0) dX6_isOf_33 rfl (by first | decide | omega) (by decide) (by decide) (by decide) (by decide) rfl rfl (fun v => by dsimp only [setI, setL, List.set]) (fun v0 e0 => ?_)
  refine z_goto (pc := 36) (tgt := 7) dX6_isOf_36 rfl ?_
  refine z_iload_n (pc := 7) dX6_isOf_7 rfl ?_
  refine z_iconst (pc := 8) (v := 5) dX6_isOf_8 (by decide) ?_
  refine zq_icmp_ge (pc := 9) (cx := 1) (cy := 5) (tgt := 39) dX6_isOf_9 rfl (by first | decide | omega) (by decide) (fun hc => absurd hc (by decide)) (fun _ => ?_)
  refine z_iload_n (pc := 12) dX6_isOf_12 rfl ?_
  refine z_iconst (pc := 13) (v := 5) dX6_isOf_13 (by decide) ?_
  refine z_is2 (pc := 14) dX6_isOf_14 ks_X6_45 rfl rfl ?_
  refine c_X10_isBelow (fun _ => ?_) (fun q => absurd (by decide) q)
  refine z_if_eq (pc := 17) (tgt := 39) dX6_isOf_17 rfl (fun hc => absurd hc (by decide)) (fun _ => ?_)
  refine z_iload_n (pc := 20) dX6_isOf_20 rfl ?_
  refine z_iload_n (pc := 21) dX6_isOf_21 rfl ?_
  refine zq_icmp_ne (pc := 22) (cx := 1) (tgt := 27) dX6_isOf_22 rfl (by decide) rfl (fun hh1 => ?_) (fun hh1 => ?_)
  rotate_left
  · refine z_iconst (pc := 25) (v := 1) dX6_isOf_25 (by decide) ?_
    refine z_zret (pc := 26) dX6_isOf_26 rfl (by decide) ?_
    exact ht (by omega)
  refine z_getsIs (pc := 27) dX6_isOf_27 kg_X6_49 ?_
  refine z_iload_n (pc := 30) dX6_isOf_30 rfl ?_
  refine z_roaldN (pc := 31) 1 dX6_isOf_31 (by decide) (by decide) (by decide) (by show _ < 5; decide) ?_
  rw [show roc G 106 1 = 0 from rfl]
  refine z_istore_n (pc := 32) dX6_isOf_32 rfl rfl (by dsimp only [setI, setL, List.set]) ?_
  refine z_iincT (pc := 33) (cx := 1) dX6_isOf_33 rfl (by first | decide | omega) (by decide) (by decide) (by decide) (by decide) rfl rfl (fun v => by dsimp only [setI, setL, List.set]) (fun v1 e1 => ?_)
  refine z_goto (pc := 36) (tgt := 7) dX6_isOf_36 rfl ?_
  refine z_iload_n (pc := 7) dX6_isOf_7 rfl ?_
  refine z_iconst (pc := 8) (v := 5) dX6_isOf_8 (by decide) ?_
  refine zq_icmp_ge (pc := 9) (cx := 2) (cy := 5) (tgt := 39) dX6_isOf_9 rfl (by first | decide | omega) (by decide) (fun hc => absurd hc (by decide)) (fun _ => ?_)
  refine z_iload_n (pc := 12) dX6_isOf_12 rfl ?_
  refine z_iconst (pc := 13) (v := 5) dX6_isOf_13 (by decide) ?_
  refine z_is2 (pc := 14) dX6_isOf_14 ks_X6_45 rfl rfl ?_
  refine c_X10_isBelow (fun _ => ?_) (fun q => absurd (by decide) q)
  refine z_if_eq (pc := 17) (tgt := 39) dX6_isOf_17 rfl (fun hc => absurd hc (by decide)) (fun _ => ?_)
  refine z_iload_n (pc := 20) dX6_isOf_20 rfl ?_
  refine z_iload_n (pc := 21) dX6_isOf_21 rfl ?_
  refine zq_icmp_ne (pc := 22) (cx := 0) (tgt := 27) dX6_isOf_22 rfl (by decide) rfl (fun hh2 => ?_) (fun hh2 => ?_)
  rotate_left
  · refine z_iconst (pc := 25) (v := 1) dX6_isOf_25 (by decide) ?_
    refine z_zret (pc := 26) dX6_isOf_26 rfl (by decide) ?_
    exact ht (by omega)
  refine z_getsIs (pc := 27) dX6_isOf_27 kg_X6_49 ?_
  refine z_iload_n (pc := 30) dX6_isOf_30 rfl ?_
  refine z_roaldN (pc := 31) 0 dX6_isOf_31 (by decide) (by decide) (by decide) (by show _ < 5; decide) ?_
  rw [show roc G 106 0 = -1 from rfl]
  refine z_istore_n (pc := 32) dX6_isOf_32 rfl rfl (by dsimp only [setI, setL, List.set]) ?_
  refine z_iincT (pc := 33) (cx := 2) dX6_isOf_33 rfl (by first | decide | omega) (by decide) (by decide) (by decide) (by decide) rfl rfl (fun v => by dsimp only [setI, setL, List.set]) (fun v2 e2 => ?_)
  refine z_goto (pc := 36) (tgt := 7) dX6_isOf_36 rfl ?_
  refine z_iload_n (pc := 7) dX6_isOf_7 rfl ?_
  refine z_iconst (pc := 8) (v := 5) dX6_isOf_8 (by decide) ?_
  refine zq_icmp_ge (pc := 9) (cx := 3) (cy := 5) (tgt := 39) dX6_isOf_9 rfl (by first | decide | omega) (by decide) (fun hc => absurd hc (by decide)) (fun _ => ?_)
  refine z_iload_n (pc := 12) dX6_isOf_12 rfl ?_
  refine z_iconst (pc := 13) (v := 5) dX6_isOf_13 (by decide) ?_
  refine z_is2 (pc := 14) dX6_isOf_14 ks_X6_45 rfl rfl ?_
  refine c_X10_isBelow (fun q => absurd q (by decide)) (fun _ => ?_)
  refine z_if_eq (pc := 17) (tgt := 39) dX6_isOf_17 rfl (fun _ => ?_) (fun hc => absurd rfl hc)
  refine z_iconst (pc := 39) (v := 0) dX6_isOf_39 (by decide) ?_
  refine z_zret (pc := 40) dX6_isOf_40 rfl (by decide) ?_
  exact hf (by omega)

theorem c_isOf4 {l : Launch} {G : Gx} {d : Nat} {σ : Sg} {Q : Option Value → Sg → Prop} {o : Nat} {w : Int32} (ho : kd o = 6) (hn : o < 105) (ek : σ.1 o 2 = 4) (ht : (w.toInt = 4 ∨ w.toInt = 0) → Q (some (.int 1)) σ) (hf : ¬ (w.toInt = 4 ∨ w.toInt = 0) → Q (some (.int 0)) σ) : Z l G M_X6_isOf (d + 1) 0 [some (.ref o), some (.int w)] [] σ Q := by
  refine z_sub (L' := [some (.ref o), some (.int w), none, none]) ⟨rfl, rfl, trivial⟩ ?_
  refine z_aload_n (pc := 0) dX6_isOf_0 rfl ?_
  refine z_getI (pc := 1) dX6_isOf_1 fk_X6_18 ho hn (by decide) (by decide) ?_
  rw [ek]
  refine z_istore_n (pc := 4) dX6_isOf_4 rfl rfl (by dsimp only [setI, setL, List.set]) ?_
  refine z_iconst (pc := 5) (v := 0) dX6_isOf_5 (by decide) ?_
  refine z_istore_n (pc := 6) dX6_isOf_6 rfl rfl (by dsimp only [setI, setL, List.set]) ?_
  refine z_iload_n (pc := 7) dX6_isOf_7 rfl ?_
  refine z_iconst (pc := 8) (v := 5) dX6_isOf_8 (by decide) ?_
  refine zq_icmp_ge (pc := 9) (cx := 0) (cy := 5) (tgt := 39) dX6_isOf_9 rfl (by first | decide | omega) (by decide) (fun hc => absurd hc (by decide)) (fun _ => ?_)
  refine z_iload_n (pc := 12) dX6_isOf_12 rfl ?_
  refine z_iconst (pc := 13) (v := 5) dX6_isOf_13 (by decide) ?_
  refine z_is2 (pc := 14) dX6_isOf_14 ks_X6_45 rfl rfl ?_
  refine c_X10_isBelow (fun _ => ?_) (fun q => absurd (by decide) q)
  refine z_if_eq (pc := 17) (tgt := 39) dX6_isOf_17 rfl (fun hc => absurd hc (by decide)) (fun _ => ?_)
  refine z_iload_n (pc := 20) dX6_isOf_20 rfl ?_
  refine z_iload_n (pc := 21) dX6_isOf_21 rfl ?_
  refine zq_icmp_ne (pc := 22) (cx := 4) (tgt := 27) dX6_isOf_22 rfl (by decide) rfl (fun hh0 => ?_) (fun hh0 => ?_)
  rotate_left
  · refine z_iconst (pc := 25) (v := 1) dX6_isOf_25 (by decide) ?_
    refine z_zret (pc := 26) dX6_isOf_26 rfl (by decide) ?_
    exact ht (by omega)
  refine z_getsIs (pc := 27) dX6_isOf_27 kg_X6_49 ?_
  refine z_iload_n (pc := 30) dX6_isOf_30 rfl ?_
  refine z_roaldN (pc := 31) 4 dX6_isOf_31 (by decide) (by decide) (by decide) (by show _ < 5; decide) ?_
  rw [show roc G 106 4 = 0 from rfl]
  refine z_istore_n (pc := 32) dX6_isOf_32 rfl rfl (by dsimp only [setI, setL, List.set]) ?_
  refine z_iincT (pc := 33) (cx := 0) dX6_isOf_33 rfl (by first | decide | omega) (by decide) (by decide) (by decide) (by decide) rfl rfl (fun v => by dsimp only [setI, setL, List.set]) (fun v0 e0 => ?_)
  refine z_goto (pc := 36) (tgt := 7) dX6_isOf_36 rfl ?_
  refine z_iload_n (pc := 7) dX6_isOf_7 rfl ?_
  refine z_iconst (pc := 8) (v := 5) dX6_isOf_8 (by decide) ?_
  refine zq_icmp_ge (pc := 9) (cx := 1) (cy := 5) (tgt := 39) dX6_isOf_9 rfl (by first | decide | omega) (by decide) (fun hc => absurd hc (by decide)) (fun _ => ?_)
  refine z_iload_n (pc := 12) dX6_isOf_12 rfl ?_
  refine z_iconst (pc := 13) (v := 5) dX6_isOf_13 (by decide) ?_
  refine z_is2 (pc := 14) dX6_isOf_14 ks_X6_45 rfl rfl ?_
  refine c_X10_isBelow (fun _ => ?_) (fun q => absurd (by decide) q)
  refine z_if_eq (pc := 17) (tgt := 39) dX6_isOf_17 rfl (fun hc => absurd hc (by decide)) (fun _ => ?_)
  refine z_iload_n (pc := 20) dX6_isOf_20 rfl ?_
  refine z_iload_n (pc := 21) dX6_isOf_21 rfl ?_
  refine zq_icmp_ne (pc := 22) (cx := 0) (tgt := 27) dX6_isOf_22 rfl (by decide) rfl (fun hh1 => ?_) (fun hh1 => ?_)
  rotate_left
  · refine z_iconst (pc := 25) (v := 1) dX6_isOf_25 (by decide) ?_
    refine z_zret (pc := 26) dX6_isOf_26 rfl (by decide) ?_
    exact ht (by omega)
  refine z_getsIs (pc := 27) dX6_isOf_27 kg_X6_49 ?_
  refine z_iload_n (pc := 30) dX6_isOf_30 rfl ?_
  refine z_roaldN (pc := 31) 0 dX6_isOf_31 (by decide) (by decide) (by decide) (by show _ < 5; decide) ?_
  rw [show roc G 106 0 = -1 from rfl]
  refine z_istore_n (pc := 32) dX6_isOf_32 rfl rfl (by dsimp only [setI, setL, List.set]) ?_
  refine z_iincT (pc := 33) (cx := 1) dX6_isOf_33 rfl (by first | decide | omega) (by decide) (by decide) (by decide) (by decide) rfl rfl (fun v => by dsimp only [setI, setL, List.set]) (fun v1 e1 => ?_)
  refine z_goto (pc := 36) (tgt := 7) dX6_isOf_36 rfl ?_
  refine z_iload_n (pc := 7) dX6_isOf_7 rfl ?_
  refine z_iconst (pc := 8) (v := 5) dX6_isOf_8 (by decide) ?_
  refine zq_icmp_ge (pc := 9) (cx := 2) (cy := 5) (tgt := 39) dX6_isOf_9 rfl (by first | decide | omega) (by decide) (fun hc => absurd hc (by decide)) (fun _ => ?_)
  refine z_iload_n (pc := 12) dX6_isOf_12 rfl ?_
  refine z_iconst (pc := 13) (v := 5) dX6_isOf_13 (by decide) ?_
  refine z_is2 (pc := 14) dX6_isOf_14 ks_X6_45 rfl rfl ?_
  refine c_X10_isBelow (fun q => absurd q (by decide)) (fun _ => ?_)
  refine z_if_eq (pc := 17) (tgt := 39) dX6_isOf_17 rfl (fun _ => ?_) (fun hc => absurd rfl hc)
  refine z_iconst (pc := 39) (v := 0) dX6_isOf_39 (by decide) ?_
  refine z_zret (pc := 40) dX6_isOf_40 rfl (by decide) ?_
  exact hf (by omega)

theorem c_isOf {l : Launch} {G : Gx} {d : Nat} {σ : Sg} {Q : Option Value → Sg → Prop} {o : Nat} {w : Int32} (ho : kd o = 6) (hn : o < 105) (hk0 : 0 ≤ (σ.1 o 2).toInt) (hk1 : (σ.1 o 2).toInt < 5) (ht : isOf (σ.1 o 2).toInt w.toInt = true → Q (some (.int 1)) σ) (hf : isOf (σ.1 o 2).toInt w.toInt = false → Q (some (.int 0)) σ) : Z l G M_X6_isOf (d + 1) 0 [some (.ref o), some (.int w)] [] σ Q := by
  rcases (show (σ.1 o 2).toInt = 0 ∨ (σ.1 o 2).toInt = 1 ∨ (σ.1 o 2).toInt = 2 ∨ (σ.1 o 2).toInt = 3 ∨ (σ.1 o 2).toInt = 4 by omega) with ek | ek | ek | ek | ek <;> rw [ek] at ht hf
  · exact c_isOf0 ho hn (Int32.toInt_inj.mp (ek.trans rfl)) (fun h => ht (decide_eq_true (by omega))) (fun h => hf (decide_eq_false (by omega)))
  · exact c_isOf1 ho hn (Int32.toInt_inj.mp (ek.trans rfl)) (fun h => ht (decide_eq_true (by omega))) (fun h => hf (decide_eq_false (by omega)))
  · exact c_isOf2 ho hn (Int32.toInt_inj.mp (ek.trans rfl)) (fun h => ht (decide_eq_true (by omega))) (fun h => hf (decide_eq_false (by omega)))
  · exact c_isOf3 ho hn (Int32.toInt_inj.mp (ek.trans rfl)) (fun h => ht (decide_eq_true (by omega))) (fun h => hf (decide_eq_false (by omega)))
  · exact c_isOf4 ho hn (Int32.toInt_inj.mp (ek.trans rfl)) (fun h => ht (decide_eq_true (by omega))) (fun h => hf (decide_eq_false (by omega)))

theorem c_X10_is {l : Launch} {G : Gx} {d : Nat} {σ : Sg} {Q : Option Value → Sg → Prop} {a : Ab} {x1 x2 : Int32} (hr : rC σ a) (hk : abOk a) (h : ∀ (r : Int32) (τ : Sg), r.toInt = (sIs a x1 x2).1 → rC τ (sIs a x1 x2).2 → eqM σ τ → Q (some (.int r)) τ) : Z l G M_X10_is (d + 2) 0 [some (.ref 0), some (.int x1), some (.int x2)] [] σ Q := by
  have hg := hr.1.1
  have hn := hk.1
  refine z_sub (L' := [some (.ref 0), some (.int x1), some (.int x2)]) ⟨rfl, rfl, rfl, trivial⟩ ?_
  refine z_aload_n (pc := 0) dX10_is_0 rfl ?_
  refine z_iload_n (pc := 1) dX10_is_1 rfl ?_
  refine z_iv1 (pc := 2) dX10_is_2 kv_X10_155 rfl (by decide) (by decide) rfl rfl ?_
  refine c_X10_isGiven (fun q2 => ?_) (fun q2 => ?_)
  · skip
    refine z_if_eq (pc := 5) (tgt := 16) dX10_is_5 rfl (fun hc => absurd hc (by decide)) (fun _ => ?_)
    refine z_iload_n (pc := 8) dX10_is_8 rfl ?_
    refine z_iconst (pc := 9) (v := 5) dX10_is_9 (by decide) ?_
    refine z_is2 (pc := 10) dX10_is_10 ks_X10_88 rfl rfl ?_
    refine c_X10_isBelow (b := 5) (fun q10 => ?_) (fun q10 => ?_)
    · skip
      refine z_if_ne (pc := 13) (tgt := 19) dX10_is_13 rfl (fun _ => ?_) (fun hc => absurd hc (by decide))
      obtain ⟨i, hi, hie⟩ : ∃ i : Nat, i < a.1.1 ∧ x1.toInt = (i : Int) := ⟨x1.toInt.toNat, by omega, by omega⟩
      have hp := hr.1.2 i hi
      have hpk := hk.2.1 i hi
      have h7 := hp.2.2.2.2.2.2.2
      have h3 : (5 : Int32).toInt = 5 := rfl
      have hgd : in03 x2.toInt 5 = true := decide_eq_true (by omega)
      refine z_aload_n (pc := 19) dX10_is_19 rfl ?_
      refine z_getR (pc := 20) (t := 3) dX10_is_20 fk_X10_18 rfl (by decide) (by decide) (by decide) rfl ?_
      refine z_iload_n (pc := 23) dX10_is_23 rfl ?_
      refine z_aaldN (pc := 24) i (t := (65 + i)) dX10_is_24 (Or.inr rfl) (by decide) hie (by show _ < 40; omega) rfl ?_
      refine z_getI (pc := 25) dX10_is_25 fk_X10_158 kd_plant (by omega) (by decide) (by decide) ?_
      refine zq_if_ne (pc := 28) (tgt := 37) dX10_is_28 rfl rfl (fun h28 => ?_) (fun h28 => ?_)
      · skip
        refine z_aload_n (pc := 37) dX10_is_37 rfl ?_
        refine z_aload_n (pc := 38) dX10_is_38 rfl ?_
        refine z_getR (pc := 39) (t := 3) dX10_is_39 fk_X10_18 rfl (by decide) (by decide) (by decide) rfl ?_
        refine z_iload_n (pc := 42) dX10_is_42 rfl ?_
        refine z_aaldN (pc := 43) i (t := (65 + i)) dX10_is_43 (Or.inr rfl) (by decide) hie (by show _ < 40; omega) rfl ?_
        refine z_iload_n (pc := 44) dX10_is_44 rfl ?_
        refine z_iv1 (pc := 45) dX10_is_45 kv_X10_192 kd_plant (by omega) (by decide) rfl rfl ?_
        have ek := hp.2.2.1
        refine c_isOf kd_plant (by omega) (by rw [ek]; exact hpk.2.2.2.2.1) (by rw [ek]; exact hpk.2.2.2.2.2.1) (fun qq => ?_) (fun qq => ?_)
        · skip
          refine z_if_eq (pc := 48) (tgt := 55) dX10_is_48 rfl (fun hc => absurd hc (by decide)) (fun _ => ?_)
          refine z_iconst (pc := 51) (v := 1) dX10_is_51 (by decide) ?_
          refine z_goto (pc := 52) (tgt := 56) dX10_is_52 rfl ?_
          refine z_iv1 (pc := 56) dX10_is_56 kv_X10_101 rfl (by decide) (by decide) rfl rfl ?_
          refine c_X10_done ?_
          refine z_iret (pc := 59) dX10_is_59 rfl ?_
          have e : sIs a x1 x2 = _ := sGiv_3 hi hie hgd (there_of h7 h28)
          rw [ek] at qq
          refine h _ _ (by rw [e, qq]; rfl) (by rw [e]; exact rC_stat hr) (eqM_uI eqM_rf rfl)
        · skip
          refine z_if_eq (pc := 48) (tgt := 55) dX10_is_48 rfl (fun _ => ?_) (fun hc => absurd hc (by decide))
          refine z_iconst (pc := 55) (v := 0) dX10_is_55 (by decide) ?_
          refine z_iv1 (pc := 56) dX10_is_56 kv_X10_101 rfl (by decide) (by decide) rfl rfl ?_
          refine c_X10_done ?_
          refine z_iret (pc := 59) dX10_is_59 rfl ?_
          have e : sIs a x1 x2 = _ := sGiv_3 hi hie hgd (there_of h7 h28)
          rw [ek] at qq
          refine h _ _ (by rw [e, qq]; rfl) (by rw [e]; exact rC_stat hr) (eqM_uI eqM_rf rfl)
      · skip
        refine z_aload_n (pc := 31) dX10_is_31 rfl ?_
        refine z_iconst (pc := 32) (v := 1) dX10_is_32 (by decide) ?_
        refine z_iv1 (pc := 33) dX10_is_33 kv_X10_93 rfl (by decide) (by decide) rfl rfl ?_
        refine c_X10_found (by decide) (by decide) (fun r er => ?_)
        refine z_iret (pc := 36) dX10_is_36 rfl ?_
        have e : sIs a x1 x2 = _ := sGiv_2 hi hie hgd (away_of h7 h28)
        exact h _ _ (by rw [e, er]; rfl) (by rw [e]; exact rC_stat hr) (eqM_uI eqM_rf rfl)
    · skip
      refine z_if_ne (pc := 13) (tgt := 19) dX10_is_13 rfl (fun hc => absurd hc (by decide)) (fun _ => ?_)
      refine z_ldc (pc := 16) dX10_is_16 kc_X10_92 ?_
      refine z_iret (pc := 18) dX10_is_18 rfl ?_
      have h3 : (5 : Int32).toInt = 5 := rfl
      have hor : ¬ (0 ≤ x1.toInt ∧ x1.toInt < (a.1.1 : Int)) ∨ in03 x2.toInt 5 = false := by first | exact Or.inl (by omega) | exact Or.inr (decide_eq_false (by omega))
      have e : sIs a x1 x2 = _ := sGiv_1 hor
      exact h _ _ (by rw [e]; rfl) (by rw [e]; exact hr) eqM_rf
  · skip
    refine z_if_eq (pc := 5) (tgt := 16) dX10_is_5 rfl (fun _ => ?_) (fun hc => absurd hc (by decide))
    refine z_ldc (pc := 16) dX10_is_16 kc_X10_92 ?_
    refine z_iret (pc := 18) dX10_is_18 rfl ?_
    have h3 : (5 : Int32).toInt = 5 := rfl
    have hor : ¬ (0 ≤ x1.toInt ∧ x1.toInt < (a.1.1 : Int)) ∨ in03 x2.toInt 5 = false := by first | exact Or.inl (by omega) | exact Or.inr (decide_eq_false (by omega))
    have e : sIs a x1 x2 = _ := sGiv_1 hor
    exact h _ _ (by rw [e]; rfl) (by rw [e]; exact hr) eqM_rf

theorem c_X10_trace {l : Launch} {G : Gx} {d : Nat} {σ : Sg} {Q : Option Value → Sg → Prop} {a : Ab} {x1 : Int32} (hr : rC σ a) (hk : abOk a) (h : ∀ r : Int32, r.toInt = sTrace a x1 → Q (some (.int r)) σ) : Z l G M_X10_trace (d + 1) 0 [some (.ref 0), some (.int x1)] [] σ Q := by
  have ht := hr.2.2.2.1
  have hl := ht.1
  have hk4 := hk.2.2.2.1
  refine z_sub (L' := [some (.ref 0), some (.int x1)]) ⟨rfl, rfl, trivial⟩ ?_
  refine z_iload_n (pc := 0) dX10_trace_0 rfl ?_
  refine z_aload_n (pc := 1) dX10_trace_1 rfl ?_
  refine z_getR (pc := 2) (t := 6) dX10_trace_2 fk_X10_35 rfl (by decide) (by decide) (by decide) rfl ?_
  refine z_getI (pc := 5) dX10_trace_5 fk_X10_195 rfl (by decide) (by decide) (by decide) ?_
  refine z_is2 (pc := 8) dX10_trace_8 ks_X10_88 rfl rfl ?_
  refine c_X10_isBelow (fun q8 => ?_) (fun q8 => ?_)
  · skip
    refine z_if_eq (pc := 11) (tgt := 26) dX10_trace_11 rfl (fun hc => absurd hc (by decide)) (fun _ => ?_)
    refine z_aload_n (pc := 14) dX10_trace_14 rfl ?_
    refine z_getR (pc := 15) (t := 6) dX10_trace_15 fk_X10_35 rfl (by decide) (by decide) (by decide) rfl ?_
    refine z_getR (pc := 18) (t := 7) dX10_trace_18 fk_X10_202 rfl (by decide) (by decide) (by decide) rfl ?_
    refine z_iload_n (pc := 21) dX10_trace_21 rfl ?_
    refine z_ialdN (pc := 22) x1.toInt.toNat dX10_trace_22 rfl (by decide) (by omega) (by show _ < 16; omega) ?_
    refine z_goto (pc := 23) (tgt := 28) dX10_trace_23 rfl ?_
    refine z_iret (pc := 28) dX10_trace_28 rfl ?_
    first | (refine h _ ?_; rw [sTrace, if_pos (by omega), ht.2.1 _ (by omega)]) | (refine h _ ?_; rw [sTrace, if_neg (by omega)]; rfl)
  · skip
    refine z_if_eq (pc := 11) (tgt := 26) dX10_trace_11 rfl (fun _ => ?_) (fun hc => absurd hc (by decide))
    refine z_ldc (pc := 26) dX10_trace_26 kc_X10_206 ?_
    refine z_iret (pc := 28) dX10_trace_28 rfl ?_
    first | (refine h _ ?_; rw [sTrace, if_pos (by omega), ht.2.1 _ (by omega)]) | (refine h _ ?_; rw [sTrace, if_neg (by omega)]; rfl)

theorem c_X10_status {l : Launch} {G : Gx} {d : Nat} {σ : Sg} {Q : Option Value → Sg → Prop} {a : Ab} (hr : rC σ a) (h : ∀ r : Int32, r.toInt = a.2.2.1.toInt → Q (some (.int r)) σ) : Z l G M_X10_status (d) 0 [some (.ref 0)] [] σ Q := by
  refine z_sub (L' := [some (.ref 0)]) ⟨rfl, trivial⟩ ?_
  refine z_aload_n (pc := 0) dX10_status_0 rfl ?_
  refine z_getI (pc := 1) dX10_status_1 fk_X10_121 rfl (by decide) (by decide) (by decide) ?_
  refine z_iret (pc := 4) dX10_status_4 rfl ?_
  exact h _ (by rw [hr.2.2.1])

theorem c_undo_no {l : Launch} {G : Gx} {d : Nat} {σ : Sg} {Q : Option Value → Sg → Prop} {a : Ab} (hk : abOk a) (hr : rC σ a) (hu : a.2.2.2.2.2 = none) (h : ∀ (r : Int32) (τ : Sg), r.toInt = (sUndo a).1 → rC τ (sUndo a).2 → eqM σ τ → Q (some (.int r)) τ) : Z l G M_X10_undo (d + 1) 0 [some (.ref 0)] [] σ Q := by
  have hu0 := hr.2.2.2.2.2.1
  rw [hu] at hu0
  have e : sUndo a = (-1000002, a) := by unfold sUndo; rw [hu]
  refine z_sub (L' := [some (.ref 0)]) ⟨rfl, trivial⟩ ?_
  refine z_aload_n (pc := 0) dX10_undo_0 rfl ?_
  refine z_getR (pc := 1) (t := 4) dX10_undo_1 fk_X10_26 rfl (by decide) (by decide) (by decide) rfl ?_
  refine z_getI (pc := 4) dX10_undo_4 fk_X10_207 rfl (by decide) (by decide) (by decide) ?_
  refine zq_if_eq (pc := 7) (tgt := 25) dX10_undo_7 rfl rfl (fun h7 => ?_) (fun h7 => ?_)
  · skip
    refine z_ldc (pc := 25) dX10_undo_25 kc_X10_213 ?_
    refine z_iret (pc := 27) dX10_undo_27 rfl ?_
    exact h _ _ (by rw [e]; rfl) (by rw [e]; exact hr) eqM_rf
  · skip
    exfalso
    rw [show σ.1 4 1 = 0 from hu0] at h7
    exact h7 rfl

theorem c_undo_yes {l : Launch} {G : Gx} {d : Nat} {σ : Sg} {Q : Option Value → Sg → Prop} {a : Ab} {u : Nat} {nw : Bool} {p : Pt} (hk : abOk a) (hr : rC σ a) (hu : a.2.2.2.2.2 = some (u, nw, p)) (h : ∀ (r : Int32) (τ : Sg), r.toInt = (sUndo a).1 → rC τ (sUndo a).2 → eqM σ τ → Q (some (.int r)) τ) : Z l G M_X10_undo (d + 1) 0 [some (.ref 0)] [] σ Q := by
  have hu0 := hr.2.2.2.2.2.1
  have hku := hk.2.2.2.2.2.2.2
  have hn := hk.1
  have hrc := undo_C hr hk hu
  rw [hu] at hu0 hku
  obtain ⟨u1, u2, u3, u4⟩ := hu0
  obtain ⟨k1, k2, k3⟩ := hku
  have e : sUndo a = (1, plTo a (if nw then a.1.1 - 1 else a.1.1) (if nw then a.1.2 else va_up a.1.2 u p) a.2.2.1 none) := by unfold sUndo; rw [hu]
  have h40 : (40 : Int32).toInt = 40 := rfl
  refine z_sub (L' := [some (.ref 0)]) ⟨rfl, trivial⟩ ?_
  refine z_aload_n (pc := 0) dX10_undo_0 rfl ?_
  refine z_getR (pc := 1) (t := 4) dX10_undo_1 fk_X10_26 rfl (by decide) (by decide) (by decide) rfl ?_
  refine z_getI (pc := 4) dX10_undo_4 fk_X10_207 rfl (by decide) (by decide) (by decide) ?_
  refine zq_if_eq (pc := 7) (tgt := 25) dX10_undo_7 rfl rfl (fun h7 => ?_) (fun h7 => ?_)
  · skip
    exfalso
    first | (rw [u1] at h7; exact absurd h7 (by decide)) | omega
  · skip
    refine z_aload_n (pc := 10) dX10_undo_10 rfl ?_
    refine z_getR (pc := 11) (t := 4) dX10_undo_11 fk_X10_26 rfl (by decide) (by decide) (by decide) rfl ?_
    refine z_getI (pc := 14) dX10_undo_14 fk_X10_210 rfl (by decide) (by decide) (by decide) ?_
    refine z_bipush (pc := 17) (v := 40) dX10_undo_17 (by decide) ?_
    refine z_is2 (pc := 19) dX10_undo_19 ks_X10_88 rfl rfl ?_
    refine c_X10_isBelow (b := 40) (fun q19 => ?_) (fun q19 => ?_)
    · skip
      refine z_if_ne (pc := 22) (tgt := 28) dX10_undo_22 rfl (fun _ => ?_) (fun hc => absurd hc (by decide))
      refine z_aload_n (pc := 28) dX10_undo_28 rfl ?_
      refine z_getR (pc := 29) (t := 4) dX10_undo_29 fk_X10_26 rfl (by decide) (by decide) (by decide) rfl ?_
      refine z_iconst (pc := 32) (v := 0) dX10_undo_32 (by decide) ?_
      refine z_putB (pc := 33) dX10_undo_33 fk_X10_207 rfl (by decide) (by decide) (by decide) (by decide) ?_
      refine z_aload_n (pc := 36) dX10_undo_36 rfl ?_
      refine z_getR (pc := 37) (t := 3) dX10_undo_37 fk_X10_18 rfl (by decide) (by decide) (by decide) rfl ?_
      refine z_aload_n (pc := 40) dX10_undo_40 rfl ?_
      refine z_getR (pc := 41) (t := 4) dX10_undo_41 fk_X10_26 rfl (by decide) (by decide) (by decide) rfl ?_
      refine z_getI (pc := 44) dX10_undo_44 fk_X10_210 rfl (by decide) (by decide) (by decide) ?_
      refine z_aaldN (pc := 47) u (t := (65 + u)) dX10_undo_47 (Or.inr rfl) (by decide) (by simp (disch := omega) only [uI_nk]; exact u2) (by show _ < 40; omega) rfl ?_
      refine z_aload_n (pc := 48) dX10_undo_48 rfl ?_
      refine z_getR (pc := 49) (t := 4) dX10_undo_49 fk_X10_26 rfl (by decide) (by decide) (by decide) rfl ?_
      refine z_getR (pc := 52) (t := 5) dX10_undo_52 fk_X10_214 rfl (by decide) (by decide) (by decide) rfl ?_
      refine z_iv1 (pc := 55) dX10_undo_55 kv_X10_218 kd_plant (by omega) (by decide) rfl rfl ?_
      refine c_X6_become kd_plant (by omega) rfl (by decide) (by omega) (by rw [uI_row (by omega)]; exact hr.2.2.2.2.2.2.2 5 (Or.inl rfl) (by decide)) ?_
      refine z_aload_n (pc := 58) dX10_undo_58 rfl ?_
      refine z_aload_n (pc := 59) dX10_undo_59 rfl ?_
      refine z_getR (pc := 60) (t := 4) dX10_undo_60 fk_X10_26 rfl (by decide) (by decide) (by decide) rfl ?_
      refine z_getI (pc := 63) dX10_undo_63 fk_X10_222 rfl (by decide) (by decide) (by decide) ?_
      rw [bec_row (by omega), uI_nk (by omega)]
      refine z_putI (pc := 66) dX10_undo_66 fk_X10_137 rfl (by decide) (by decide) (by decide) ?_
      refine z_aload_n (pc := 69) dX10_undo_69 rfl ?_
      refine z_iv0 (pc := 70) dX10_undo_70 kv_X10_152 rfl (by decide) (by decide) rfl rfl ?_
      refine c_X10_forget ?_
      refine z_iconst (pc := 73) (v := 1) dX10_undo_73 (by decide) ?_
      refine z_iret (pc := 74) dX10_undo_74 rfl ?_
      exact h _ _ (by rw [e]; rfl) (by rw [e]; exact hrc) (fgt_X (eqM_uI (eqM_bec (eqM_uI eqM_rf rfl) (isM_big (by omega))) rfl))
    · skip
      refine z_if_ne (pc := 22) (tgt := 28) dX10_undo_22 rfl (fun hc => absurd hc (by decide)) (fun _ => ?_)
      exfalso
      first | (rw [u1] at h7; exact absurd h7 (by decide)) | omega

theorem c_undo {l : Launch} {G : Gx} {d : Nat} {σ : Sg} {Q : Option Value → Sg → Prop} {a : Ab} (hr : rC σ a) (hk : abOk a) (h : ∀ (r : Int32) (τ : Sg), r.toInt = (sUndo a).1 → rC τ (sUndo a).2 → eqM σ τ → Q (some (.int r)) τ) : Z l G M_X10_undo (d + 1) 0 [some (.ref 0)] [] σ Q := by
  cases hu : a.2.2.2.2.2 with
  | none => exact c_undo_no hk hr hu h
  | some q =>
    obtain ⟨u, nw, p⟩ := q
    exact c_undo_yes hk hr hu h
