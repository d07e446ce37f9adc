theorem bd_new {σ : Sg} {b : Nat} {l n : Int32} (hb : b < 8) (h0 : 0 ≤ l.toInt) (h1 : l.toInt < 3) (h2 : n.toInt ≤ 100) : bdC (uI (zJ (uI (uI (uI σ (49 + b) 1 1) (49 + b) 2 l) (49 + b) 3 n) (57 + b) 100) 0 12 0) b (l + 1, n, fun _ => 0) := by
  have e : (l + 1).toInt = l.toInt + 1 := t32_add (y := 1) (by show _ ≤ l.toInt + 1; omega) (by show l.toInt + 1 < _; omega)
  have hne : ¬ (l + 1 = 0) := fun h => by rw [h] at e; have : (0 : Int32).toInt = 0 := rfl; omega
  refine ⟨?_, fun _ => ⟨?_, ?_, fun j hj => ?_⟩⟩
  · rw [if_neg hne]
    simp (disch := omega) only [uI_row, uI_2, uI_nk, uI_no, uI_eq, zJ_1, zJ_row, uJ_1, uJ_row, cpJ_1, cpJ_row]
  · rw [e]
    simp (disch := omega) only [uI_row, uI_2, uI_nk, uI_no, uI_eq, zJ_1, zJ_row, uJ_1, uJ_row, cpJ_1, cpJ_row]
    omega
  · simp (disch := omega) only [uI_row, uI_2, uI_nk, uI_no, uI_eq, zJ_1, zJ_row, uJ_1, uJ_row, cpJ_1, cpJ_row]
  · simp (disch := omega) only [uI_row, uI_2, uI_nk, uI_no, uI_eq, zJ_1, zJ_row, uJ_1, uJ_row, cpJ_1, cpJ_row]
    exact zJ_in (by have : (j : Int) < n.toInt := hj; omega)

theorem c_X10_bed {l : Launch} {G : Gx} {d : Nat} {σ : Sg} {Q : Option Value → Sg → Prop} {a : Ab} {x1 x2 x3 : Int32} (hr : rC σ a) (hk : abOk a) (h : ∀ (r : Int32) (τ : Sg), r.toInt = (sBed a x1 x2 x3).1 → rC τ (sBed a x1 x2 x3).2 → eqM σ τ → Q (some (.int r)) τ) : Z l G M_X10_bed (d + 2) 0 [some (.ref 0), some (.int x1), some (.int x2), some (.int x3)] [] σ Q := by
  refine z_sub (L' := [some (.ref 0), some (.int x1), some (.int x2), some (.int x3)]) ⟨rfl, rfl, rfl, rfl, trivial⟩ ?_
  refine z_iload_n (pc := 0) dX10_bed_0 rfl ?_
  refine z_is1 (pc := 1) dX10_bed_1 ks_X10_84 rfl rfl ?_
  refine c_X10_isBed (fun q1 => ?_) (fun q1 => ?_)
  · skip
    refine z_if_eq (pc := 4) (tgt := 21) dX10_bed_4 rfl (fun hc => absurd hc (by decide)) (fun _ => ?_)
    refine z_iload_n (pc := 7) dX10_bed_7 rfl ?_
    refine z_iconst (pc := 8) (v := 3) dX10_bed_8 (by decide) ?_
    refine z_is2 (pc := 9) dX10_bed_9 ks_X10_88 rfl rfl ?_
    refine c_X10_isBelow (b := 3) (fun q9 => ?_) (fun q9 => ?_)
    · skip
      refine z_if_eq (pc := 12) (tgt := 21) dX10_bed_12 rfl (fun hc => absurd hc (by decide)) (fun _ => ?_)
      refine z_iload_n (pc := 15) dX10_bed_15 rfl ?_
      refine z_bipush (pc := 16) (v := 100) dX10_bed_16 (by decide) ?_
      refine zq_icmp_le (pc := 18) (cy := 100) (tgt := 24) dX10_bed_18 rfl rfl (by decide) (fun h18 => ?_) (fun h18 => ?_)
      · skip
        refine z_iload_n (pc := 24) dX10_bed_24 rfl ?_
        refine zq_if_ge (pc := 25) (tgt := 34) dX10_bed_25 rfl rfl (fun h25 => ?_) (fun h25 => ?_)
        · skip
          obtain ⟨b, hb, hbe⟩ : ∃ b : Nat, b < 8 ∧ x1.toInt = (b : Int) := ⟨x1.toInt.toNat, by omega, by omega⟩
          refine z_aload_n (pc := 34) dX10_bed_34 rfl ?_
          refine z_getR (pc := 35) (t := 2) dX10_bed_35 fk_X10_11 rfl (by decide) (by decide) (by decide) rfl ?_
          refine z_iload_n (pc := 38) dX10_bed_38 rfl ?_
          refine z_aaldN (pc := 39) b (t := (49 + b)) dX10_bed_39 (Or.inl rfl) (by decide) hbe (by show _ < 8; omega) rfl ?_
          refine z_iload_n (pc := 40) dX10_bed_40 rfl ?_
          refine z_iload_n (pc := 41) dX10_bed_41 rfl ?_
          refine z_iv2 (pc := 42) dX10_bed_42 kv_X10_97 (kd_bed hb) (by omega) (by decide) rfl rfl ?_
          refine c_X0_lay hb ?_
          refine z_aload_n (pc := 45) dX10_bed_45 rfl ?_
          refine z_iload_n (pc := 46) dX10_bed_46 rfl ?_
          refine z_iv1 (pc := 47) dX10_bed_47 kv_X10_101 rfl (by decide) (by decide) rfl rfl ?_
          refine c_X10_done ?_
          refine z_iret (pc := 50) dX10_bed_50 rfl ?_
          have h3 : (3 : Int32).toInt = 3 := rfl
          have e := sBed_3 (a := a) (b := x1) (l := x2) (n := x3) (i := b) (by omega) (by omega) hb hbe
          refine h _ _ (by rw [e]) (by
            rw [e]
            refine rC_bed hr hb ?_ (fun o h0 h1 h2 => ?_) (bd_new hb (by omega) (by omega) (by omega)) (uI_eq _ _ _ _)
            · simp (disch := omega) only [uI_row, uI_2, uI_nk, uI_no, uI_eq, zJ_1, zJ_row, uJ_1, uJ_row, cpJ_1, cpJ_row]
            · constructor <;> simp (disch := omega) only [uI_row, uI_2, uI_nk, uI_no, uI_eq, zJ_1, zJ_row, uJ_1, uJ_row, cpJ_1, cpJ_row]) (eqM_uI (eqM_zJ (eqM_uI (eqM_uI (eqM_uI eqM_rf (isM_bed hb)) (isM_bed hb)) (isM_bed hb)) (isM_big (by omega))) rfl)
        · skip
          refine z_aload_n (pc := 28) dX10_bed_28 rfl ?_
          refine z_iconst (pc := 29) (v := 4) dX10_bed_29 (by decide) ?_
          refine z_iv1 (pc := 30) dX10_bed_30 kv_X10_93 rfl (by decide) (by decide) rfl rfl ?_
          refine c_X10_found (by decide) (by decide) (fun r er => ?_)
          refine z_iret (pc := 33) dX10_bed_33 rfl ?_
          have h3 : (3 : Int32).toInt = 3 := rfl
          have e := sBed_2 (a := a) (b := x1) (l := x2) (n := x3) (by omega) (by omega)
          exact h r _ (by rw [e, er]; rfl) (by rw [e]; exact rC_stat hr) (eqM_uI eqM_rf rfl)
      · skip
        refine z_ldc (pc := 21) dX10_bed_21 kc_X10_92 ?_
        refine z_iret (pc := 23) dX10_bed_23 rfl ?_
        have h3 : (3 : Int32).toInt = 3 := rfl
        have e := sBed_1 (a := a) (b := x1) (l := x2) (n := x3) (by omega)
        exact h _ _ (by rw [e]; rfl) (by rw [e]; exact hr) eqM_rf
    · skip
      refine z_if_eq (pc := 12) (tgt := 21) dX10_bed_12 rfl (fun _ => ?_) (fun hc => absurd hc (by decide))
      refine z_ldc (pc := 21) dX10_bed_21 kc_X10_92 ?_
      refine z_iret (pc := 23) dX10_bed_23 rfl ?_
      have h3 : (3 : Int32).toInt = 3 := rfl
      have e := sBed_1 (a := a) (b := x1) (l := x2) (n := x3) (by omega)
      exact h _ _ (by rw [e]; rfl) (by rw [e]; exact hr) eqM_rf
  · skip
    refine z_if_eq (pc := 4) (tgt := 21) dX10_bed_4 rfl (fun _ => ?_) (fun hc => absurd hc (by decide))
    refine z_ldc (pc := 21) dX10_bed_21 kc_X10_92 ?_
    refine z_iret (pc := 23) dX10_bed_23 rfl ?_
    have h3 : (3 : Int32).toInt = 3 := rfl
    have e := sBed_1 (a := a) (b := x1) (l := x2) (n := x3) (by omega)
    exact h _ _ (by rw [e]; rfl) (by rw [e]; exact hr) eqM_rf

theorem lane_no {σ : Sg} {b : Nat} {q : Bd} (h : bdC σ b q) (h0 : (σ.1 (49 + b) 1).toInt = 0) : q.1 = 0 := by
  by_cases hq : q.1 = 0
  · exact hq
  · rw [h.1, if_neg hq] at h0; exact absurd h0 (by decide)
theorem lane_yes {σ : Sg} {b : Nat} {q : Bd} (h : bdC σ b q) (h0 : (σ.1 (49 + b) 1).toInt ≠ 0) : q.1 ≠ 0 := fun hq => by
  rw [h.1, if_pos hq] at h0; exact h0 (by decide)

theorem c_X10_set {l : Launch} {G : Gx} {d : Nat} {σ : Sg} {Q : Option Value → Sg → Prop} {a : Ab} {x1 x2 : Int32} {x3 : Int64} (hr : rC σ a) (hk : abOk a) (h : ∀ (r : Int64) (τ : Sg), r.toInt = (sSet a x1 x2 x3).1 → rC τ (sSet a x1 x2 x3).2 → eqM σ τ → Q (some (.long r)) τ) : Z l G M_X10_set (d + 2) 0 [some (.ref 0), some (.int x1), some (.int x2), some (.long x3), none] [] σ Q := by
  refine z_sub (L' := [some (.ref 0), some (.int x1), some (.int x2), some (.long x3), none, none]) ⟨rfl, rfl, rfl, rfl, trivial⟩ ?_
  refine z_iload_n (pc := 0) dX10_set_0 rfl ?_
  refine z_is1 (pc := 1) dX10_set_1 ks_X10_84 rfl rfl ?_
  refine c_X10_isBed (fun q1 => ?_) (fun q1 => ?_)
  · skip
    refine z_if_ne (pc := 4) (tgt := 11) dX10_set_4 rfl (fun _ => ?_) (fun hc => absurd hc (by decide))
    obtain ⟨b, hb, hbe⟩ : ∃ b : Nat, b < 8 ∧ x1.toInt = (b : Int) := ⟨x1.toInt.toNat, by omega, by omega⟩
    refine z_aload_n (pc := 11) dX10_set_11 rfl ?_
    refine z_getR (pc := 12) (t := 2) dX10_set_12 fk_X10_11 rfl (by decide) (by decide) (by decide) rfl ?_
    refine z_iload_n (pc := 15) dX10_set_15 rfl ?_
    refine z_aaldN (pc := 16) b (t := (49 + b)) dX10_set_16 (Or.inl rfl) (by decide) hbe (by show _ < 8; omega) rfl ?_
    refine z_astore (pc := 17) dX10_set_17 rfl rfl (by dsimp only [setI, setL, List.set]) ?_
    refine z_aload (pc := 19) dX10_set_19 rfl ?_
    refine z_getI (pc := 21) dX10_set_21 fk_X10_106 (kd_bed hb) (by omega) (by decide) (by decide) ?_
    refine zq_if_ne (pc := 24) (tgt := 34) dX10_set_24 rfl rfl (fun h24 => ?_) (fun h24 => ?_)
    · skip
      have hq := lane_yes (hr.2.1 b hb) h24
      obtain ⟨hB2, hB3, hB4⟩ := (hr.2.1 b hb).2 hq
      have hBk2 := (hk.2.2.1 b hb).2.2 hq
      have e3 : (σ.1 (49 + b) 3).toInt = (a.2.1 b).2.1.toInt := by rw [hB3]
      refine z_aload (pc := 34) dX10_set_34 rfl ?_
      refine z_iload_n (pc := 36) dX10_set_36 rfl ?_
      refine z_iconst (pc := 37) (v := 1) dX10_set_37 (by decide) ?_
      refine z_iv2 (pc := 38) dX10_set_38 kv_X10_110 (kd_bed hb) (by omega) (by decide) rfl rfl ?_
      refine c_X0_has (kd_bed hb) (by omega) (by omega) (fun q38 => ?_) (fun q38 => ?_)
      · skip
        refine z_if_ne (pc := 41) (tgt := 51) dX10_set_41 rfl (fun _ => ?_) (fun hc => absurd hc (by decide))
        have h1 : (1 : Int32).toInt = 1 := rfl
        obtain ⟨j, hj, hje⟩ : ∃ j : Nat, (j : Int) < (a.2.1 b).2.1.toInt ∧ x2.toInt = (j : Int) := ⟨x2.toInt.toNat, by omega, by omega⟩
        refine z_aload (pc := 51) dX10_set_51 rfl ?_
        refine z_getR (pc := 53) (t := (57 + b)) dX10_set_53 fk_X10_113 (kd_bed hb) (by omega) (by decide) (by decide) (rfo_bed hb) ?_
        refine z_iload_n (pc := 56) dX10_set_56 rfl ?_
        refine z_aload (pc := 57) dX10_set_57 rfl ?_
        refine z_lload_n (pc := 59) dX10_set_59 rfl ?_
        refine z_iv1 (pc := 60) dX10_set_60 kv_X10_117 (kd_bed hb) (by omega) (by decide) rfl rfl ?_
        refine c_X0_narrowed (kd_bed hb) (by omega) ?_
        refine z_lastN (pc := 63) j dX10_set_63 (kd_items hb) (by omega) hje (by rw [ln_items hb]; omega) ?_
        refine z_aload_n (pc := 64) dX10_set_64 rfl ?_
        refine z_iconst (pc := 65) (v := 0) dX10_set_65 (by decide) ?_
        refine z_putI (pc := 66) dX10_set_66 fk_X10_121 rfl (by decide) (by decide) (by decide) ?_
        refine z_aload (pc := 69) dX10_set_69 rfl ?_
        refine z_getR (pc := 71) (t := (57 + b)) dX10_set_71 fk_X10_113 (kd_bed hb) (by omega) (by decide) (by decide) (rfo_bed hb) ?_
        refine z_iload_n (pc := 74) dX10_set_74 rfl ?_
        refine z_laldN (pc := 75) j dX10_set_75 (kd_items hb) (by omega) hje (by rw [ln_items hb]; omega) ?_
        refine z_lret (pc := 76) dX10_set_76 rfl ?_
        have hnr : nrw (σ.1 (49 + b) 2).toInt x3 = nrw ((a.2.1 b).1.toInt - 1) x3 := by rw [hB2]
        have e := sSet_4 (a := a) (b := x1) (i := x2) (v := x3) hb hbe hq hje hj
        refine h _ _ (by rw [e, uI_2, uJ_eq, hnr]) (by
          rw [e]
          refine rC_bed hr hb ?_ (fun o h0 h1 h2 => ?_) ⟨?_, fun _ => ⟨?_, ?_, fun i hi => ?_⟩⟩ (uI_eq _ _ _ _)
          · simp (disch := omega) only [uI_row, uI_2, uI_nk, uI_no, uI_eq, zJ_1, zJ_row, uJ_1, uJ_row, cpJ_1, cpJ_row]
          · constructor <;> simp (disch := omega) only [uI_row, uI_2, uI_nk, uI_no, uI_eq, zJ_1, zJ_row, uJ_1, uJ_row, cpJ_1, cpJ_row]
          · simp (disch := omega) only [uI_row, uI_2, uI_nk, uI_no, uI_eq, zJ_1, zJ_row, uJ_1, uJ_row, cpJ_1, cpJ_row]
            exact (hr.2.1 b hb).1
          · simp (disch := omega) only [uI_row, uI_2, uI_nk, uI_no, uI_eq, zJ_1, zJ_row, uJ_1, uJ_row, cpJ_1, cpJ_row]
            exact hB2
          · simp (disch := omega) only [uI_row, uI_2, uI_nk, uI_no, uI_eq, zJ_1, zJ_row, uJ_1, uJ_row, cpJ_1, cpJ_row]
            exact hB3
          · rw [uI_2, upd_uJ, hnr]
            by_cases hij : i = j
            · subst hij; simp [vp_updL]
            · simp only [vp_updL, if_neg hij]
              exact hB4 i hi) (eqM_uI (eqM_uJ eqM_rf (isM_big (by omega))) rfl)
      · skip
        refine z_if_ne (pc := 41) (tgt := 51) dX10_set_41 rfl (fun hc => absurd hc (by decide)) (fun _ => ?_)
        refine z_aload_n (pc := 44) dX10_set_44 rfl ?_
        refine z_iconst (pc := 45) (v := 2) dX10_set_45 (by decide) ?_
        refine z_iv1 (pc := 46) dX10_set_46 kv_X10_93 rfl (by decide) (by decide) rfl rfl ?_
        refine c_X10_found (by decide) (by decide) (fun r er => ?_)
        refine z_i2l (pc := 49) dX10_set_49 ?_
        refine z_lret (pc := 50) dX10_set_50 rfl ?_
        have h1 : (1 : Int32).toInt = 1 := rfl
        have e := sSet_3 (a := a) (b := x1) (i := x2) (v := x3) hb hbe hq (by omega)
        exact h _ _ (by rw [e, Int32.toInt_toInt64, er]; rfl) (by rw [e]; exact rC_stat hr) (eqM_uI eqM_rf rfl)
    · skip
      refine z_aload_n (pc := 27) dX10_set_27 rfl ?_
      refine z_iconst (pc := 28) (v := 1) dX10_set_28 (by decide) ?_
      refine z_iv1 (pc := 29) dX10_set_29 kv_X10_93 rfl (by decide) (by decide) rfl rfl ?_
      refine c_X10_found (by decide) (by decide) (fun r er => ?_)
      refine z_i2l (pc := 32) dX10_set_32 ?_
      refine z_lret (pc := 33) dX10_set_33 rfl ?_
      have e := sSet_2 (a := a) (b := x1) (i := x2) (v := x3) hb hbe (lane_no (hr.2.1 b hb) h24)
      exact h _ _ (by rw [e, Int32.toInt_toInt64, er]; rfl) (by rw [e]; exact rC_stat hr) (eqM_uI eqM_rf rfl)
  · skip
    refine z_if_ne (pc := 4) (tgt := 11) dX10_set_4 rfl (fun hc => absurd hc (by decide)) (fun _ => ?_)
    refine z_ldc2 (pc := 7) dX10_set_7 kc_X10_104 ?_
    refine z_lret (pc := 10) dX10_set_10 rfl ?_
    have e := sSet_1 (a := a) (b := x1) (i := x2) (v := x3) (by omega)
    exact h _ _ (by rw [e]; rfl) (by rw [e]; exact hr) eqM_rf

theorem c_X10_drop {l : Launch} {G : Gx} {d : Nat} {σ : Sg} {Q : Option Value → Sg → Prop} {a : Ab} {x1 : Int32} (hr : rC σ a) (hk : abOk a) (h : ∀ (r : Int32) (τ : Sg), r.toInt = (sDrop a x1).1 → rC τ (sDrop a x1).2 → eqM σ τ → Q (some (.int r)) τ) : Z l G M_X10_drop (d + 2) 0 [some (.ref 0), some (.int x1)] [] σ Q := by
  refine z_sub (L' := [some (.ref 0), some (.int x1)]) ⟨rfl, rfl, trivial⟩ ?_
  refine z_iload_n (pc := 0) dX10_drop_0 rfl ?_
  refine z_is1 (pc := 1) dX10_drop_1 ks_X10_84 rfl rfl ?_
  refine c_X10_isBed (fun q1 => ?_) (fun q1 => ?_)
  · skip
    refine z_if_ne (pc := 4) (tgt := 10) dX10_drop_4 rfl (fun _ => ?_) (fun hc => absurd hc (by decide))
    obtain ⟨b, hb, hbe⟩ : ∃ b : Nat, b < 8 ∧ x1.toInt = (b : Int) := ⟨x1.toInt.toNat, by omega, by omega⟩
    refine z_aload_n (pc := 10) dX10_drop_10 rfl ?_
    refine z_getR (pc := 11) (t := 2) dX10_drop_11 fk_X10_11 rfl (by decide) (by decide) (by decide) rfl ?_
    refine z_iload_n (pc := 14) dX10_drop_14 rfl ?_
    refine z_aaldN (pc := 15) b (t := (49 + b)) dX10_drop_15 (Or.inl rfl) (by decide) hbe (by show _ < 8; omega) rfl ?_
    refine z_getI (pc := 16) dX10_drop_16 fk_X10_106 (kd_bed hb) (by omega) (by decide) (by decide) ?_
    refine zq_if_ne (pc := 19) (tgt := 28) dX10_drop_19 rfl rfl (fun h19 => ?_) (fun h19 => ?_)
    · skip
      refine z_aload_n (pc := 28) dX10_drop_28 rfl ?_
      refine z_getR (pc := 29) (t := 2) dX10_drop_29 fk_X10_11 rfl (by decide) (by decide) (by decide) rfl ?_
      refine z_iload_n (pc := 32) dX10_drop_32 rfl ?_
      refine z_aaldN (pc := 33) b (t := (49 + b)) dX10_drop_33 (Or.inl rfl) (by decide) hbe (by show _ < 8; omega) rfl ?_
      refine z_iconst (pc := 34) (v := 0) dX10_drop_34 (by decide) ?_
      refine z_putB (pc := 35) dX10_drop_35 fk_X10_106 (kd_bed hb) (by omega) (by decide) (by decide) (by decide) ?_
      refine z_aload_n (pc := 38) dX10_drop_38 rfl ?_
      refine z_aload_n (pc := 39) dX10_drop_39 rfl ?_
      refine z_getR (pc := 40) (t := 2) dX10_drop_40 fk_X10_11 rfl (by decide) (by decide) (by decide) rfl ?_
      refine z_iload_n (pc := 43) dX10_drop_43 rfl ?_
      refine z_aaldN (pc := 44) b (t := (49 + b)) dX10_drop_44 (Or.inl rfl) (by decide) hbe (by show _ < 8; omega) rfl ?_
      refine z_getI (pc := 45) dX10_drop_45 fk_X10_125 (kd_bed hb) (by omega) (by decide) (by decide) ?_
      refine z_iv1 (pc := 48) dX10_drop_48 kv_X10_101 rfl (by decide) (by decide) rfl rfl ?_
      refine c_X10_done ?_
      refine z_iret (pc := 51) dX10_drop_51 rfl ?_
      have hq := lane_yes (hr.2.1 b hb) h19
      have e := sDrop_3 (a := a) (b := x1) hb hbe hq
      refine h _ _ (by rw [e, uI_nk (by omega), ((hr.2.1 b hb).2 hq).2.1]) (by
        rw [e]
        refine rC_bed hr hb ?_ (fun o h0 h1 h2 => ?_) ⟨?_, fun z => absurd rfl z⟩ (uI_eq _ _ _ _)
        · simp (disch := omega) only [uI_row, uI_2, uI_nk, uI_no, uI_eq, zJ_1, zJ_row, uJ_1, uJ_row, cpJ_1, cpJ_row]
        · constructor <;> simp (disch := omega) only [uI_row, uI_2, uI_nk, uI_no, uI_eq, zJ_1, zJ_row, uJ_1, uJ_row, cpJ_1, cpJ_row]
        · rw [if_pos rfl]
          simp (disch := omega) only [uI_row, uI_2, uI_nk, uI_no, uI_eq, zJ_1, zJ_row, uJ_1, uJ_row, cpJ_1, cpJ_row]) (eqM_uI (eqM_uI eqM_rf (isM_bed hb)) rfl)
    · skip
      refine z_aload_n (pc := 22) dX10_drop_22 rfl ?_
      refine z_iconst (pc := 23) (v := 1) dX10_drop_23 (by decide) ?_
      refine z_iv1 (pc := 24) dX10_drop_24 kv_X10_93 rfl (by decide) (by decide) rfl rfl ?_
      refine c_X10_found (by decide) (by decide) (fun r er => ?_)
      refine z_iret (pc := 27) dX10_drop_27 rfl ?_
      have e := sDrop_2 (a := a) (b := x1) hb hbe (lane_no (hr.2.1 b hb) h19)
      exact h _ _ (by rw [e, er]; rfl) (by rw [e]; exact rC_stat hr) (eqM_uI eqM_rf rfl)
  · skip
    refine z_if_ne (pc := 4) (tgt := 10) dX10_drop_4 rfl (fun hc => absurd hc (by decide)) (fun _ => ?_)
    refine z_ldc (pc := 7) dX10_drop_7 kc_X10_92 ?_
    refine z_iret (pc := 9) dX10_drop_9 rfl ?_
    have e := sDrop_1 (a := a) (b := x1) (by omega)
    exact h _ _ (by rw [e]; rfl) (by rw [e]; exact hr) eqM_rf

theorem c_X10_copy {l : Launch} {G : Gx} {d : Nat} {σ : Sg} {Q : Option Value → Sg → Prop} {a : Ab} {x1 x2 x3 x4 x5 : Int32} (hr : rC σ a) (hk : abOk a) (h : ∀ (r : Int32) (τ : Sg), r.toInt = (sCopy a x1 x2 x3 x4 x5).1 → rC τ (sCopy a x1 x2 x3 x4 x5).2 → eqM σ τ → Q (some (.int r)) τ) : Z l G M_X10_copy (d + 2) 0 [some (.ref 0), some (.int x1), some (.int x2), some (.int x3), some (.int x4), some (.int x5)] [] σ Q := by
  refine z_sub (L' := [some (.ref 0), some (.int x1), some (.int x2), some (.int x3), some (.int x4), some (.int x5), none, none]) ⟨rfl, rfl, rfl, rfl, rfl, rfl, trivial⟩ ?_
  refine z_iload_n (pc := 0) dX10_copy_0 rfl ?_
  refine z_is1 (pc := 1) dX10_copy_1 ks_X10_84 rfl rfl ?_
  refine c_X10_isBed (fun q1 => ?_) (fun q1 => ?_)
  · skip
    refine z_if_eq (pc := 4) (tgt := 14) dX10_copy_4 rfl (fun hc => absurd hc (by decide)) (fun _ => ?_)
    refine z_iload_n (pc := 7) dX10_copy_7 rfl ?_
    refine z_is1 (pc := 8) dX10_copy_8 ks_X10_84 rfl rfl ?_
    refine c_X10_isBed (fun q8 => ?_) (fun q8 => ?_)
    · skip
      refine z_if_ne (pc := 11) (tgt := 17) dX10_copy_11 rfl (fun _ => ?_) (fun hc => absurd hc (by decide))
      obtain ⟨b, hb, hbe⟩ : ∃ b : Nat, b < 8 ∧ x1.toInt = (b : Int) := ⟨x1.toInt.toNat, by omega, by omega⟩
      obtain ⟨c, hc, hce⟩ : ∃ c : Nat, c < 8 ∧ x3.toInt = (c : Int) := ⟨x3.toInt.toNat, by omega, by omega⟩
      refine z_aload_n (pc := 17) dX10_copy_17 rfl ?_
      refine z_getR (pc := 18) (t := 2) dX10_copy_18 fk_X10_11 rfl (by decide) (by decide) (by decide) rfl ?_
      refine z_iload_n (pc := 21) dX10_copy_21 rfl ?_
      refine z_aaldN (pc := 22) b (t := (49 + b)) dX10_copy_22 (Or.inl rfl) (by decide) hbe (by show _ < 8; omega) rfl ?_
      refine z_astore (pc := 23) dX10_copy_23 rfl rfl (by dsimp only [setI, setL, List.set]) ?_
      refine z_aload_n (pc := 25) dX10_copy_25 rfl ?_
      refine z_getR (pc := 26) (t := 2) dX10_copy_26 fk_X10_11 rfl (by decide) (by decide) (by decide) rfl ?_
      refine z_iload_n (pc := 29) dX10_copy_29 rfl ?_
      refine z_aaldN (pc := 30) c (t := (49 + c)) dX10_copy_30 (Or.inl rfl) (by decide) hce (by show _ < 8; omega) rfl ?_
      refine z_astore (pc := 31) dX10_copy_31 rfl rfl (by dsimp only [setI, setL, List.set]) ?_
      refine z_aload (pc := 33) dX10_copy_33 rfl ?_
      refine z_getI (pc := 35) dX10_copy_35 fk_X10_106 (kd_bed hb) (by omega) (by decide) (by decide) ?_
      refine zq_if_eq (pc := 38) (tgt := 49) dX10_copy_38 rfl rfl (fun h38 => ?_) (fun h38 => ?_)
      · skip
        refine z_aload_n (pc := 49) dX10_copy_49 rfl ?_
        refine z_iconst (pc := 50) (v := 1) dX10_copy_50 (by decide) ?_
        refine z_iv1 (pc := 51) dX10_copy_51 kv_X10_93 rfl (by decide) (by decide) rfl rfl ?_
        refine c_X10_found (by decide) (by decide) (fun r er => ?_)
        refine z_iret (pc := 54) dX10_copy_54 rfl ?_
        first | (have e := sCopy_2 (a := a) (p := x1) (i := x2) (q := x3) (j := x4) (n := x5) hb hc hbe hce (Or.inl (lane_no (hr.2.1 b hb) h38)); exact h _ _ (by rw [e, er]; rfl) (by rw [e]; exact rC_stat hr) (eqM_uI eqM_rf rfl)) | (have e := sCopy_2 (a := a) (p := x1) (i := x2) (q := x3) (j := x4) (n := x5) hb hc hbe hce (Or.inr (lane_no (hr.2.1 c hc) h46)); exact h _ _ (by rw [e, er]; rfl) (by rw [e]; exact rC_stat hr) (eqM_uI eqM_rf rfl))
      · skip
        refine z_aload (pc := 41) dX10_copy_41 rfl ?_
        refine z_getI (pc := 43) dX10_copy_43 fk_X10_106 (kd_bed hc) (by omega) (by decide) (by decide) ?_
        refine zq_if_ne (pc := 46) (tgt := 55) dX10_copy_46 rfl rfl (fun h46 => ?_) (fun h46 => ?_)
        · skip
          have hq := lane_yes (hr.2.1 b hb) h38
          have hq2 := lane_yes (hr.2.1 c hc) h46
          obtain ⟨hB2, hB3, hB4⟩ := (hr.2.1 b hb).2 hq
          obtain ⟨hC2, hC3, hC4⟩ := (hr.2.1 c hc).2 hq2
          have hBk2 := (hk.2.2.1 b hb).2.2 hq
          have hCk2 := (hk.2.2.1 c hc).2.2 hq2
          have hno : ¬ ((a.2.1 b).1 = 0 ∨ (a.2.1 c).1 = 0) := fun z => z.elim hq hq2
          have e3 : (σ.1 (49 + b) 3).toInt = (a.2.1 b).2.1.toInt := by rw [hB3]
          have e4 : (σ.1 (49 + c) 3).toInt = (a.2.1 c).2.1.toInt := by rw [hC3]
          refine z_aload (pc := 55) dX10_copy_55 rfl ?_
          refine z_getI (pc := 57) dX10_copy_57 fk_X10_128 (kd_bed hb) (by omega) (by decide) (by decide) ?_
          refine z_aload (pc := 60) dX10_copy_60 rfl ?_
          refine z_getI (pc := 62) dX10_copy_62 fk_X10_128 (kd_bed hc) (by omega) (by decide) (by decide) ?_
          refine zq_icmp_eq (pc := 65) (tgt := 74) dX10_copy_65 rfl rfl rfl (fun h65 => ?_) (fun h65 => ?_)
          · skip
            refine z_aload (pc := 74) dX10_copy_74 rfl ?_
            refine z_iload_n (pc := 76) dX10_copy_76 rfl ?_
            refine z_iload (pc := 77) dX10_copy_77 rfl ?_
            refine z_iv2 (pc := 79) dX10_copy_79 kv_X10_110 (kd_bed hb) (by omega) (by decide) rfl rfl ?_
            refine c_X0_has (kd_bed hb) (by omega) (by omega) (fun q79 => ?_) (fun q79 => ?_)
            · skip
              refine z_if_eq (pc := 82) (tgt := 97) dX10_copy_82 rfl (fun hc => absurd hc (by decide)) (fun _ => ?_)
              refine z_aload (pc := 85) dX10_copy_85 rfl ?_
              refine z_iload (pc := 87) dX10_copy_87 rfl ?_
              refine z_iload (pc := 89) dX10_copy_89 rfl ?_
              refine z_iv2 (pc := 91) dX10_copy_91 kv_X10_110 (kd_bed hc) (by omega) (by decide) rfl rfl ?_
              refine c_X0_has (kd_bed hc) (by omega) (by omega) (fun q91 => ?_) (fun q91 => ?_)
              · skip
                refine z_if_ne (pc := 94) (tgt := 103) dX10_copy_94 rfl (fun _ => ?_) (fun hc => absurd hc (by decide))
                obtain ⟨i, hi⟩ : ∃ i : Nat, x2.toInt = (i : Int) := ⟨x2.toInt.toNat, by omega⟩
                obtain ⟨j, hj⟩ : ∃ j : Nat, x4.toInt = (j : Int) := ⟨x4.toInt.toNat, by omega⟩
                obtain ⟨n, hn⟩ : ∃ n : Nat, x5.toInt = (n : Int) := ⟨x5.toInt.toNat, by omega⟩
                refine z_aload (pc := 103) dX10_copy_103 rfl ?_
                refine z_getR (pc := 105) (t := (57 + b)) dX10_copy_105 fk_X10_113 (kd_bed hb) (by omega) (by decide) (by decide) (rfo_bed hb) ?_
                refine z_iload_n (pc := 108) dX10_copy_108 rfl ?_
                refine z_aload (pc := 109) dX10_copy_109 rfl ?_
                refine z_getR (pc := 111) (t := (57 + c)) dX10_copy_111 fk_X10_113 (kd_bed hc) (by omega) (by decide) (by decide) (rfo_bed hc) ?_
                refine z_iload (pc := 114) dX10_copy_114 rfl ?_
                refine z_iload (pc := 116) dX10_copy_116 rfl ?_
                refine z_copyl (pc := 118) dX10_copy_118 kj_X10_131 (kd_items hb) (kd_items hc) (by omega) (by omega) (fun z => by have := Int32.lt_iff_toInt_lt.mp z; have z0 : (0 : Int32).toInt = 0 := rfl; omega) (fun z => by have := Int32.lt_iff_toInt_lt.mp z; have z0 : (0 : Int32).toInt = 0 := rfl; omega) (fun z => by have := Int32.lt_iff_toInt_lt.mp z; have z0 : (0 : Int32).toInt = 0 := rfl; omega) (by rw [ln_items hb, zclamp hi, zclamp hn]; omega) (by rw [ln_items hc, zclamp hj, zclamp hn]; omega) rfl ?_
                rw [zclamp hi, zclamp hj, zclamp hn]
                refine z_aload_n (pc := 121) dX10_copy_121 rfl ?_
                refine z_iload (pc := 122) dX10_copy_122 rfl ?_
                refine z_iv1 (pc := 124) dX10_copy_124 kv_X10_101 rfl (by decide) (by decide) rfl rfl ?_
                refine c_X10_done ?_
                refine z_iret (pc := 127) dX10_copy_127 rfl ?_
                have hln : (a.2.1 b).1 = (a.2.1 c).1 := Int32.toInt_inj.mp (by omega)
                have e := sCopy_5 (a := a) (p := x1) (i := x2) (q := x3) (j := x4) (n := x5) hb hc hbe hce hno hln hi hj hn (by omega) (by omega)
                refine h _ _ (by rw [e]) (by
                  rw [e]
                  refine rC_bed hr hc ?_ (fun o h0 h1 h2 => ?_) ⟨?_, fun _ => ⟨?_, ?_, fun t ht => ?_⟩⟩ (uI_eq _ _ _ _)
                  · simp (disch := omega) only [uI_row, uI_2, uI_nk, uI_no, uI_eq, zJ_1, zJ_row, uJ_1, uJ_row, cpJ_1, cpJ_row]
                  · constructor <;> simp (disch := omega) only [uI_row, uI_2, uI_nk, uI_no, uI_eq, zJ_1, zJ_row, uJ_1, uJ_row, cpJ_1, cpJ_row]
                  · simp (disch := omega) only [uI_row, uI_2, uI_nk, uI_no, uI_eq, zJ_1, zJ_row, uJ_1, uJ_row, cpJ_1, cpJ_row]
                    exact (hr.2.1 c hc).1
                  · simp (disch := omega) only [uI_row, uI_2, uI_nk, uI_no, uI_eq, zJ_1, zJ_row, uJ_1, uJ_row, cpJ_1, cpJ_row]
                    exact hC2
                  · simp (disch := omega) only [uI_row, uI_2, uI_nk, uI_no, uI_eq, zJ_1, zJ_row, uJ_1, uJ_row, cpJ_1, cpJ_row]
                    exact hC3
                  · rw [uI_2, cpJ_at]
                    show va_cpy _ _ i j n t = va_cpy _ _ i j n t
                    unfold va_cpy
                    by_cases hc9 : j ≤ t ∧ t < j + n
                    · rw [if_pos hc9, if_pos hc9]; exact hB4 _ (by omega)
                    · rw [if_neg hc9, if_neg hc9]; exact hC4 t ht) (eqM_uI (eqM_cpJ eqM_rf (isM_big (by omega))) rfl)
              · skip
                refine z_if_ne (pc := 94) (tgt := 103) dX10_copy_94 rfl (fun hc => absurd hc (by decide)) (fun _ => ?_)
                refine z_aload_n (pc := 97) dX10_copy_97 rfl ?_
                refine z_iconst (pc := 98) (v := 2) dX10_copy_98 (by decide) ?_
                refine z_iv1 (pc := 99) dX10_copy_99 kv_X10_93 rfl (by decide) (by decide) rfl rfl ?_
                refine c_X10_found (by decide) (by decide) (fun r er => ?_)
                refine z_iret (pc := 102) dX10_copy_102 rfl ?_
                have hln : (a.2.1 b).1 = (a.2.1 c).1 := Int32.toInt_inj.mp (by omega)
                have e := sCopy_4 (a := a) (p := x1) (i := x2) (q := x3) (j := x4) (n := x5) hb hc hbe hce hno hln (by omega)
                exact h _ _ (by rw [e, er]; rfl) (by rw [e]; exact rC_stat hr) (eqM_uI eqM_rf rfl)
            · skip
              refine z_if_eq (pc := 82) (tgt := 97) dX10_copy_82 rfl (fun _ => ?_) (fun hc => absurd hc (by decide))
              refine z_aload_n (pc := 97) dX10_copy_97 rfl ?_
              refine z_iconst (pc := 98) (v := 2) dX10_copy_98 (by decide) ?_
              refine z_iv1 (pc := 99) dX10_copy_99 kv_X10_93 rfl (by decide) (by decide) rfl rfl ?_
              refine c_X10_found (by decide) (by decide) (fun r er => ?_)
              refine z_iret (pc := 102) dX10_copy_102 rfl ?_
              have hln : (a.2.1 b).1 = (a.2.1 c).1 := Int32.toInt_inj.mp (by omega)
              have e := sCopy_4 (a := a) (p := x1) (i := x2) (q := x3) (j := x4) (n := x5) hb hc hbe hce hno hln (by omega)
              exact h _ _ (by rw [e, er]; rfl) (by rw [e]; exact rC_stat hr) (eqM_uI eqM_rf rfl)
          · skip
            refine z_aload_n (pc := 68) dX10_copy_68 rfl ?_
            refine z_iconst (pc := 69) (v := 5) dX10_copy_69 (by decide) ?_
            refine z_iv1 (pc := 70) dX10_copy_70 kv_X10_93 rfl (by decide) (by decide) rfl rfl ?_
            refine c_X10_found (by decide) (by decide) (fun r er => ?_)
            refine z_iret (pc := 73) dX10_copy_73 rfl ?_
            have e := sCopy_3 (a := a) (p := x1) (i := x2) (q := x3) (j := x4) (n := x5) hb hc hbe hce hno (fun z => by rw [z] at hB2; omega)
            exact h _ _ (by rw [e, er]; rfl) (by rw [e]; exact rC_stat hr) (eqM_uI eqM_rf rfl)
        · skip
          refine z_aload_n (pc := 49) dX10_copy_49 rfl ?_
          refine z_iconst (pc := 50) (v := 1) dX10_copy_50 (by decide) ?_
          refine z_iv1 (pc := 51) dX10_copy_51 kv_X10_93 rfl (by decide) (by decide) rfl rfl ?_
          refine c_X10_found (by decide) (by decide) (fun r er => ?_)
          refine z_iret (pc := 54) dX10_copy_54 rfl ?_
          first | (have e := sCopy_2 (a := a) (p := x1) (i := x2) (q := x3) (j := x4) (n := x5) hb hc hbe hce (Or.inl (lane_no (hr.2.1 b hb) h38)); exact h _ _ (by rw [e, er]; rfl) (by rw [e]; exact rC_stat hr) (eqM_uI eqM_rf rfl)) | (have e := sCopy_2 (a := a) (p := x1) (i := x2) (q := x3) (j := x4) (n := x5) hb hc hbe hce (Or.inr (lane_no (hr.2.1 c hc) h46)); exact h _ _ (by rw [e, er]; rfl) (by rw [e]; exact rC_stat hr) (eqM_uI eqM_rf rfl))
    · skip
      refine z_if_ne (pc := 11) (tgt := 17) dX10_copy_11 rfl (fun hc => absurd hc (by decide)) (fun _ => ?_)
      refine z_ldc (pc := 14) dX10_copy_14 kc_X10_92 ?_
      refine z_iret (pc := 16) dX10_copy_16 rfl ?_
      have e := sCopy_1 (a := a) (p := x1) (i := x2) (q := x3) (j := x4) (n := x5) (by omega)
      exact h _ _ (by rw [e]; rfl) (by rw [e]; exact hr) eqM_rf
  · skip
    refine z_if_eq (pc := 4) (tgt := 14) dX10_copy_4 rfl (fun _ => ?_) (fun hc => absurd hc (by decide))
    refine z_ldc (pc := 14) dX10_copy_14 kc_X10_92 ?_
    refine z_iret (pc := 16) dX10_copy_16 rfl ?_
    have e := sCopy_1 (a := a) (p := x1) (i := x2) (q := x3) (j := x4) (n := x5) (by omega)
    exact h _ _ (by rw [e]; rfl) (by rw [e]; exact hr) eqM_rf
