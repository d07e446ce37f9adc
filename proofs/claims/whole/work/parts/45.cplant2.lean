theorem c_X10_plant {l : Launch} {G : Gx} {d : Nat} {σ : Sg} {Q : Option Value → Sg → Prop} {a : Ab} {x1 x2 x3 : Int32} (hr : rC σ a) (hk : abOk a) (h : ∀ (r : Int32) (τ : Sg), r.toInt = (sPlant a x1 x2 x3).1 → rC τ (sPlant a x1 x2 x3).2 → eqM σ τ → Q (some (.int r)) τ) : Z l G M_X10_plant (d + 9) 0 [some (.ref 0), some (.int x1), some (.int x2), some (.int x3)] [] σ Q := by
  have hg := hr.1.1
  have hn := hk.1
  refine z_sub (L' := [some (.ref 0), some (.int x1), some (.int x2), some (.int x3), none, none, none, none, none, none]) ⟨rfl, rfl, rfl, rfl, trivial⟩ ?_
  refine z_iload_n (pc := 0) dX10_plant_0 rfl ?_
  refine z_is1 (pc := 1) dX10_plant_1 ks_X10_84 rfl rfl ?_
  refine c_X10_isBed (fun q1 => ?_) (fun q1 => ?_)
  · skip
    refine z_if_eq (pc := 4) (tgt := 15) dX10_plant_4 rfl (fun hc => absurd hc (by decide)) (fun _ => ?_)
    refine z_iload_n (pc := 7) dX10_plant_7 rfl ?_
    refine z_iconst (pc := 8) (v := 5) dX10_plant_8 (by decide) ?_
    refine z_is2 (pc := 9) dX10_plant_9 ks_X10_88 rfl rfl ?_
    refine c_X10_isBelow (b := 5) (fun q9 => ?_) (fun q9 => ?_)
    · skip
      refine z_if_ne (pc := 12) (tgt := 18) dX10_plant_12 rfl (fun _ => ?_) (fun hc => absurd hc (by decide))
      have h5 : (5 : Int32).toInt = 5 := rfl
      refine z_aload_n (pc := 18) dX10_plant_18 rfl ?_
      refine z_getI (pc := 19) dX10_plant_19 fk_X10_137 rfl (by decide) (by decide) (by decide) ?_
      refine z_bipush (pc := 22) (v := 40) dX10_plant_22 (by decide) ?_
      refine zq_icmp_lt (pc := 24) (cy := 40) (tgt := 30) dX10_plant_24 rfl rfl (by decide) (fun h24 => ?_) (fun h24 => ?_)
      · skip
        obtain ⟨b, hb, hbe⟩ : ∃ b : Nat, b < 8 ∧ x1.toInt = (b : Int) := ⟨x1.toInt.toNat, by omega, by omega⟩
        refine z_aload_n (pc := 30) dX10_plant_30 rfl ?_
        refine z_getR (pc := 31) (t := 2) dX10_plant_31 fk_X10_11 rfl (by decide) (by decide) (by decide) rfl ?_
        refine z_iload_n (pc := 34) dX10_plant_34 rfl ?_
        refine z_aaldN (pc := 35) b (t := (49 + b)) dX10_plant_35 (Or.inl rfl) (by decide) hbe (by show _ < 8; omega) rfl ?_
        refine z_astore (pc := 36) dX10_plant_36 rfl rfl (by dsimp only [setI, setL, List.set]) ?_
        refine z_aload (pc := 38) dX10_plant_38 rfl ?_
        refine z_getI (pc := 40) dX10_plant_40 fk_X10_106 (kd_bed hb) (by omega) (by decide) (by decide) ?_
        refine zq_if_ne (pc := 43) (tgt := 52) dX10_plant_43 rfl rfl (fun h43 => ?_) (fun h43 => ?_)
        · skip
          have hq := lane_yes (hr.2.1 b hb) h43
          obtain ⟨hB2, hB3, hB4⟩ := (hr.2.1 b hb).2 hq
          have hBk2 := (hk.2.2.1 b hb).2.2 hq
          have e3 : (σ.1 (49 + b) 3).toInt = (a.2.1 b).2.1.toInt := by rw [hB3]
          have two : (2 : Int32).toInt = 2 := rfl
          refine z_aload (pc := 52) dX10_plant_52 rfl ?_
          refine z_iload_n (pc := 54) dX10_plant_54 rfl ?_
          refine z_iconst (pc := 55) (v := 2) dX10_plant_55 (by decide) ?_
          refine z_iv2 (pc := 56) dX10_plant_56 kv_X10_110 (kd_bed hb) (by omega) (by decide) rfl rfl ?_
          refine c_X0_has (kd_bed hb) (by omega) (by omega) (fun q56 => ?_) (fun q56 => ?_)
          · skip
            refine z_if_ne (pc := 59) (tgt := 68) dX10_plant_59 rfl (fun _ => ?_) (fun hc => absurd hc (by decide))
            obtain ⟨j, hje, hj⟩ : ∃ j : Nat, x2.toInt = (j : Int) ∧ (j : Int) + 2 ≤ (a.2.1 b).2.1.toInt := ⟨x2.toInt.toNat, by omega, by omega⟩
            have fx := hB4 j (by omega)
            have fy := hB4 (j + 1) (by omega)
            have fx' : (σ.2 (57 + b) j).toInt = ((a.2.1 b).2.2 j).toInt := by rw [fx]
            have fy' : (σ.2 (57 + b) (j + 1)).toInt = ((a.2.1 b).2.2 (j + 1)).toInt := by rw [fy]
            refine z_aload (pc := 68) dX10_plant_68 rfl ?_
            refine z_getR (pc := 70) (t := (57 + b)) dX10_plant_70 fk_X10_113 (kd_bed hb) (by omega) (by decide) (by decide) (rfo_bed hb) ?_
            refine z_iload_n (pc := 73) dX10_plant_73 rfl ?_
            refine z_laldN (pc := 74) j dX10_plant_74 (kd_items hb) (by omega) hje (by rw [ln_items hb]; omega) ?_
            refine z_lstore (pc := 75) dX10_plant_75 rfl rfl (by dsimp only [setI, setL, List.set]) ?_
            refine z_aload (pc := 77) dX10_plant_77 rfl ?_
            refine z_getR (pc := 79) (t := (57 + b)) dX10_plant_79 fk_X10_113 (kd_bed hb) (by omega) (by decide) (by decide) (rfo_bed hb) ?_
            refine z_iload_n (pc := 82) dX10_plant_82 rfl ?_
            refine z_iconst (pc := 83) (v := 1) dX10_plant_83 (by decide) ?_
            refine z_iaddT (pc := 84) (cy := 1) dX10_plant_84 rfl (by decide) (by omega) (by omega) (fun v84 e84 => ?_)
            refine z_laldN (pc := 85) (j + 1) dX10_plant_85 (kd_items hb) (by omega) (by omega) (by rw [ln_items hb]; omega) ?_
            refine z_lstore (pc := 86) dX10_plant_86 rfl rfl (by dsimp only [setI, setL, List.set]) ?_
            refine z_lload (pc := 88) dX10_plant_88 rfl ?_
            refine z_is1 (pc := 90) dX10_plant_90 ks_X10_141 rfl rfl ?_
            refine c_X10_isInField (fun q90 => ?_) (fun q90 => ?_)
            · skip
              refine z_if_eq (pc := 93) (tgt := 104) dX10_plant_93 rfl (fun hc => absurd hc (by decide)) (fun _ => ?_)
              refine z_lload (pc := 96) dX10_plant_96 rfl ?_
              refine z_is1 (pc := 98) dX10_plant_98 ks_X10_141 rfl rfl ?_
              refine c_X10_isInField (fun q98 => ?_) (fun q98 => ?_)
              · skip
                refine z_if_ne (pc := 101) (tgt := 107) dX10_plant_101 rfl (fun _ => ?_) (fun hc => absurd hc (by decide))
                refine z_aload_n (pc := 107) dX10_plant_107 rfl ?_
                refine z_getI (pc := 108) dX10_plant_108 fk_X10_137 rfl (by decide) (by decide) (by decide) ?_
                
                refine z_istore (pc := 111) dX10_plant_111 rfl rfl (by dsimp only [setI, setL, List.set]) ?_
                refine z_aload_n (pc := 113) dX10_plant_113 rfl ?_
                refine z_iload (pc := 114) dX10_plant_114 rfl ?_
                refine z_iv1 (pc := 116) dX10_plant_116 kv_X10_145 rfl (by decide) (by decide) rfl rfl ?_
                refine c_X10_keepForUndo (i := a.1.1) (by omega) hg (hr.2.2.2.2.2.2.2 _ (Or.inr (by omega)) (by omega)) ?_
                change Z l G _ _ _ _ _ (kp σ a.1.1 (σ.1 0 11)) Q
                refine z_aload_n (pc := 119) dX10_plant_119 rfl ?_
                refine z_getR (pc := 120) (t := 3) dX10_plant_120 fk_X10_18 rfl (by decide) (by decide) (by decide) rfl ?_
                refine z_iload (pc := 123) dX10_plant_123 rfl ?_
                refine z_aaldN (pc := 125) a.1.1 (t := (65 + a.1.1)) dX10_plant_125 (Or.inr rfl) (by decide) hg (by show _ < 40; omega) rfl ?_
                refine z_lload (pc := 126) dX10_plant_126 rfl ?_
                refine z_l2i (pc := 128) dX10_plant_128 ?_
                refine z_lload (pc := 129) dX10_plant_129 rfl ?_
                refine z_l2i (pc := 131) dX10_plant_131 ?_
                refine z_iload_n (pc := 132) dX10_plant_132 rfl ?_
                refine z_aload_n (pc := 133) dX10_plant_133 rfl ?_
                refine z_getR (pc := 134) (t := 8) dX10_plant_134 fk_X10_39 rfl (by decide) (by decide) (by decide) rfl ?_
                refine z_iv4 (pc := 137) dX10_plant_137 kv_X10_148 kd_plant (by omega) (by decide) rfl rfl ?_
                have k8 := kp_row (σ := σ) (i := a.1.1) (x := σ.1 0 11) (o := 8) (by omega) (by omega)
                have t8 := hr.2.2.2.1.2.2
                have e8 : ((kp σ a.1.1 (σ.1 0 11)).1 8 1) = 0 := by rw [k8]; exact t8
                refine c_X6_begin kd_plant (by omega) (by omega) (by omega) (by omega) ⟨by rw [e8]; decide, by rw [e8]; decide⟩ (by omega) (by omega) (fun ρ hρ hrow hr2 => ?_)
                refine z_aload_n (pc := 140) dX10_plant_140 rfl ?_
                refine z_iload (pc := 141) dX10_plant_141 rfl ?_
                refine z_iconst (pc := 143) (v := 1) dX10_plant_143 (by decide) ?_
                refine z_iaddT (pc := 144) (cy := 1) dX10_plant_144 rfl (by decide) (by omega) (by omega) (fun v144 e144 => ?_)
                refine z_putI (pc := 145) dX10_plant_145 fk_X10_137 rfl (by decide) (by decide) (by decide) ?_
                refine z_aload_n (pc := 148) dX10_plant_148 rfl ?_
                refine z_iv0 (pc := 149) dX10_plant_149 kv_X10_152 rfl (by decide) (by decide) rfl rfl ?_
                refine c_X10_forget ?_
                refine z_aload_n (pc := 152) dX10_plant_152 rfl ?_
                refine z_iload (pc := 153) dX10_plant_153 rfl ?_
                refine z_iv1 (pc := 155) dX10_plant_155 kv_X10_101 rfl (by decide) (by decide) rfl rfl ?_
                refine c_X10_done ?_
                refine z_iret (pc := 158) dX10_plant_158 rfl ?_
                have e : sPlant a x1 x2 x3 = _ := sPlant_6 hb hbe (by omega) (by omega) hq hje hj (by omega)
                have hrow' : ∀ o, o ≠ 65 + a.1.1 → ρ.1 o = (kp σ a.1.1 (σ.1 0 11)).1 o := hrow
                refine h _ _ (by rw [e]; exact hg) (by
                  rw [e]
                  refine rC_new (x := σ.1 0 11) hr (by omega) hg (by omega) ?_ hrow' hr2
                  rw [fx, fy] at hρ
                  exact hρ) (eqM_uI (fgt_X (eqM_uI (eqM_kp hrow' hr2) rfl)) rfl)
              · skip
                refine z_if_ne (pc := 101) (tgt := 107) dX10_plant_101 rfl (fun hc => absurd hc (by decide)) (fun _ => ?_)
                refine z_ldc (pc := 104) dX10_plant_104 kc_X10_92 ?_
                refine z_iret (pc := 106) dX10_plant_106 rfl ?_
                have e : sPlant a x1 x2 x3 = _ := sPlant_5 hb hbe (by omega) (by omega) hq hje hj (by omega)
                exact h _ _ (by rw [e]; rfl) (by rw [e]; exact hr) eqM_rf
            · skip
              refine z_if_eq (pc := 93) (tgt := 104) dX10_plant_93 rfl (fun _ => ?_) (fun hc => absurd hc (by decide))
              refine z_ldc (pc := 104) dX10_plant_104 kc_X10_92 ?_
              refine z_iret (pc := 106) dX10_plant_106 rfl ?_
              have e : sPlant a x1 x2 x3 = _ := sPlant_5 hb hbe (by omega) (by omega) hq hje hj (by omega)
              exact h _ _ (by rw [e]; rfl) (by rw [e]; exact hr) eqM_rf
          · skip
            refine z_if_ne (pc := 59) (tgt := 68) dX10_plant_59 rfl (fun hc => absurd hc (by decide)) (fun _ => ?_)
            refine z_aload_n (pc := 62) dX10_plant_62 rfl ?_
            refine z_iconst (pc := 63) (v := 2) dX10_plant_63 (by decide) ?_
            refine z_iv1 (pc := 64) dX10_plant_64 kv_X10_93 rfl (by decide) (by decide) rfl rfl ?_
            refine c_X10_found (by decide) (by decide) (fun r er => ?_)
            refine z_iret (pc := 67) dX10_plant_67 rfl ?_
            have e : sPlant a x1 x2 x3 = _ := sPlant_4 hb hbe (by omega) (by omega) hq (by omega)
            exact h _ _ (by rw [e, er]; rfl) (by rw [e]; exact rC_stat hr) (eqM_uI eqM_rf rfl)
        · skip
          refine z_aload_n (pc := 46) dX10_plant_46 rfl ?_
          refine z_iconst (pc := 47) (v := 1) dX10_plant_47 (by decide) ?_
          refine z_iv1 (pc := 48) dX10_plant_48 kv_X10_93 rfl (by decide) (by decide) rfl rfl ?_
          refine c_X10_found (by decide) (by decide) (fun r er => ?_)
          refine z_iret (pc := 51) dX10_plant_51 rfl ?_
          have e : sPlant a x1 x2 x3 = _ := sPlant_3 hb hbe (by omega) (by omega) (lane_no (hr.2.1 b hb) h43)
          exact h _ _ (by rw [e, er]; rfl) (by rw [e]; exact rC_stat hr) (eqM_uI eqM_rf rfl)
      · skip
        refine z_ldc (pc := 27) dX10_plant_27 kc_X10_140 ?_
        refine z_iret (pc := 29) dX10_plant_29 rfl ?_
        have e : sPlant a x1 x2 x3 = _ := sPlant_2 (by omega) (by omega)
        exact h _ _ (by rw [e]; rfl) (by rw [e]; exact hr) eqM_rf
    · skip
      refine z_if_ne (pc := 12) (tgt := 18) dX10_plant_12 rfl (fun hc => absurd hc (by decide)) (fun _ => ?_)
      refine z_ldc (pc := 15) dX10_plant_15 kc_X10_92 ?_
      refine z_iret (pc := 17) dX10_plant_17 rfl ?_
      have h5 : (5 : Int32).toInt = 5 := rfl
      have e : sPlant a x1 x2 x3 = _ := sPlant_1 (by omega)
      exact h _ _ (by rw [e]; rfl) (by rw [e]; exact hr) eqM_rf
  · skip
    refine z_if_eq (pc := 4) (tgt := 15) dX10_plant_4 rfl (fun _ => ?_) (fun hc => absurd hc (by decide))
    refine z_ldc (pc := 15) dX10_plant_15 kc_X10_92 ?_
    refine z_iret (pc := 17) dX10_plant_17 rfl ?_
    have h5 : (5 : Int32).toInt = 5 := rfl
    have e : sPlant a x1 x2 x3 = _ := sPlant_1 (by omega)
    exact h _ _ (by rw [e]; rfl) (by rw [e]; exact hr) eqM_rf

theorem lvs_6 : ∀ (bs : List Int32) (σ : Sg) (m : Nat), (σ.1 6 1).toInt = (m : Int) → m + bs.length ≤ 16 → ((lvs 6 σ bs).1 6 1).toInt = ((m + bs.length : Nat) : Int) ∧ (∀ j, j < m → (lvs 6 σ bs).1 7 j = σ.1 7 j) ∧ ∀ j, j < bs.length → (lvs 6 σ bs).1 7 (m + j) = bs.getD j 0
  | [], σ, m, hm, _ => ⟨by rw [lvs_nil]; simpa using hm, fun _ _ => rfl, fun j hj => by simp at hj⟩
  | b :: bs, σ, m, hm, hl => by
    simp only [List.length_cons] at hl
    have e : lvT 6 σ b = uI (uI σ 7 m b) 6 1 (σ.1 6 1 + 1) := by
      have em : (σ.1 6 1).toInt.toNat = m := by omega
      unfold lvT
      rw [if_pos ⟨rfl, by omega⟩, em]
    rw [lvs_cons, e]
    have hm' : ((uI (uI σ 7 m b) 6 1 (σ.1 6 1 + 1)).1 6 1).toInt = ((m + 1 : Nat) : Int) := by
      rw [uI_eq, t32_add (y := 1)] <;> (have : (1 : Int32).toInt = 1 := rfl) <;> omega
    obtain ⟨h1, h2, h3⟩ := lvs_6 bs _ (m + 1) hm' (by omega)
    refine ⟨by rw [h1]; simp; omega, fun j hj => ?_, fun j hj => ?_⟩
    · rw [h2 j (by omega), uI_row (by omega), uI_nk (by omega)]
    · cases j with
      | zero => rw [Nat.add_zero, h2 m (by omega), uI_row (by omega), uI_eq]; rfl
      | succ j =>
        have := h3 j (by simp at hj; omega)
        rw [show m + (j + 1) = m + 1 + j by omega, this]
        rfl
theorem asB_len (w k c : Int) : (asB w k c).length ≤ 7 := by
  unfold asB redB bluB allB worB allB lenB redB bluB
  repeat' split
  all_goals simp
theorem rC_ask {σ : Sg} {a : Ab} {f : Int32} {bs : List Int32} (h : rC σ a) (hl : bs.length ≤ 16) : rC (uI (lvs 6 (uI σ 6 1 0) bs) 0 12 f) (trTo a f bs) := by
  obtain ⟨r1, r2, r3, r4, r5, r6, r7, r8⟩ := h
  have row : ∀ o, o ≠ 0 → o ≠ 6 → o ≠ 7 → (uI (lvs 6 (uI σ 6 1 0) bs) 0 12 f).1 o = σ.1 o := fun o h0 h6 h7 => by rw [uI_row h0, lvs_row h6 h7, uI_row h6]
  have row2 : (uI (lvs 6 (uI σ 6 1 0) bs) 0 12 f).2 = σ.2 := by rw [uI_2, lvs_2, uI_2]
  have h6 := lvs_6 bs (uI σ 6 1 0) 0 (by rw [uI_eq]; rfl) (by omega)
  refine ⟨rcP_cong (by rw [uI_nk (by omega), lvs_row (by omega) (by omega), uI_row (by omega)]) (fun i hi => row _ (by omega) (by omega) (by omega)) r1, rcB_cong (fun o h1 h2 => ⟨row o (by omega) (by omega) (by omega), by rw [row2]⟩) r2, uI_eq _ _ _ _, ⟨?_, fun j hj => ?_, ?_⟩, rcL_cong (row 10 (by omega) (by omega) (by omega)) r5, rcU_cong (row 4 (by omega) (by omega) (by omega)) (row 5 (by omega) (by omega) (by omega)) r6, CA_cong (fun o h1 h2 => ⟨row o (by omega) (by omega) (by omega), by rw [row2]⟩) r7, fun o h1 h2 => by rw [row o (by omega) (by omega) (by omega)]; exact r8 o h1 h2⟩
  · rw [uI_row (by omega), h6.1]; simp [trTo]
  · rw [uI_row (by omega)]
    have := h6.2.2 j hj
    rw [Nat.zero_add] at this
    exact this
  · rw [row 8 (by omega) (by omega) (by omega)]; exact r4.2.2
theorem eqM_lvs {σ τ : Sg} {t : Nat} {bs : List Int32} (h : eqM σ τ) : eqM σ (lvs t τ bs) := fun o ho => by
  have h6 : o ≠ 6 := fun e => by rw [e] at ho; cases ho
  have h7 : o ≠ 7 := fun e => by rw [e] at ho; cases ho
  exact ⟨(lvs_row h6 h7 bs τ).trans (h o ho).1, by rw [lvs_2]; exact (h o ho).2⟩

theorem c_ans0 {l : Launch} {G : Gx} {d : Nat} {σ : Sg} {Q : Option Value → Sg → Prop} {o : Nat} {x : Int32} (ho : kd o = 6) (hn : o < 105) (h6 : o ≠ 6) (h7 : o ≠ 7) (hT : TL σ 6) (hk0 : 0 ≤ (σ.1 o 2).toInt) (hk1 : (σ.1 o 2).toInt < 5) (hx : x = 0) (h : ∀ r : Int32, r.toInt = redOf (σ.1 o 2).toInt (σ.1 o 3).toInt → Q (some (.int r)) (lvs 6 σ (redB (σ.1 o 2).toInt (σ.1 o 3).toInt))) : Z l G M_X6_answer (d + 10) 0 [some (.ref o), some (.int x), some (.ref 6)] [] σ Q := by
  subst hx
  refine z_sub (L' := [some (.ref o), some (.int 0), some (.ref 6)]) ⟨rfl, rfl, rfl, trivial⟩ ?_
  refine z_aload_n (pc := 0) dX6_answer_0 rfl ?_
  refine z_iload_n (pc := 1) dX6_answer_1 rfl ?_
  refine z_aload_n (pc := 2) dX6_answer_2 rfl ?_
  refine z_iconst (pc := 3) (v := 0) dX6_answer_3 (by decide) ?_
  refine z_iv3 (pc := 4) dX6_answer_4 kv_X6_32 ho hn (by decide) rfl rfl ?_
  refine c_bRed ho hn h6 h7 hT (by decide) (by decide) hk0 hk1 (fun r er => ?_)
  refine z_iret (pc := 7) dX6_answer_7 rfl ?_
  exact h r er

theorem c_ans1 {l : Launch} {G : Gx} {d : Nat} {σ : Sg} {Q : Option Value → Sg → Prop} {o : Nat} {x : Int32} (ho : kd o = 6) (hn : o < 105) (h6 : o ≠ 6) (h7 : o ≠ 7) (hT : TL σ 6) (hk0 : 0 ≤ (σ.1 o 2).toInt) (hk1 : (σ.1 o 2).toInt < 5) (hx : x = 1) (h : ∀ r : Int32, r.toInt = blueOf (σ.1 o 2).toInt (σ.1 o 3).toInt → Q (some (.int r)) (lvs 6 σ (bluB (σ.1 o 2).toInt (σ.1 o 3).toInt))) : Z l G M_X6_answer (d + 10) 0 [some (.ref o), some (.int x), some (.ref 6)] [] σ Q := by
  subst hx
  refine z_sub (L' := [some (.ref o), some (.int 1), some (.ref 6)]) ⟨rfl, rfl, rfl, trivial⟩ ?_
  refine z_aload_n (pc := 0) dX6_answer_0 rfl ?_
  refine z_iload_n (pc := 1) dX6_answer_1 rfl ?_
  refine z_aload_n (pc := 2) dX6_answer_2 rfl ?_
  refine z_iconst (pc := 3) (v := 0) dX6_answer_3 (by decide) ?_
  refine z_iv3 (pc := 4) dX6_answer_4 kv_X6_32 ho hn (by decide) rfl rfl ?_
  refine c_bBlu ho hn h6 h7 hT (by decide) (by decide) hk0 hk1 (fun r er => ?_)
  refine z_iret (pc := 7) dX6_answer_7 rfl ?_
  exact h r er

theorem c_ans2 {l : Launch} {G : Gx} {d : Nat} {σ : Sg} {Q : Option Value → Sg → Prop} {o : Nat} {x : Int32} (ho : kd o = 6) (hn : o < 105) (h6 : o ≠ 6) (h7 : o ≠ 7) (hT : TL σ 6) (hk0 : 0 ≤ (σ.1 o 2).toInt) (hk1 : (σ.1 o 2).toInt < 5) (hx : x = 2) (h : ∀ r : Int32, r.toInt = allOf (σ.1 o 2).toInt (σ.1 o 3).toInt → Q (some (.int r)) (lvs 6 σ (allB (σ.1 o 2).toInt (σ.1 o 3).toInt))) : Z l G M_X6_answer (d + 10) 0 [some (.ref o), some (.int x), some (.ref 6)] [] σ Q := by
  subst hx
  refine z_sub (L' := [some (.ref o), some (.int 2), some (.ref 6)]) ⟨rfl, rfl, rfl, trivial⟩ ?_
  refine z_aload_n (pc := 0) dX6_answer_0 rfl ?_
  refine z_iload_n (pc := 1) dX6_answer_1 rfl ?_
  refine z_aload_n (pc := 2) dX6_answer_2 rfl ?_
  refine z_iconst (pc := 3) (v := 0) dX6_answer_3 (by decide) ?_
  refine z_iv3 (pc := 4) dX6_answer_4 kv_X6_32 ho hn (by decide) rfl rfl ?_
  refine c_bAll ho hn h6 h7 hT (by decide) (by decide) hk0 hk1 (fun r er => ?_)
  refine z_iret (pc := 7) dX6_answer_7 rfl ?_
  exact h r er

theorem c_ans3 {l : Launch} {G : Gx} {d : Nat} {σ : Sg} {Q : Option Value → Sg → Prop} {o : Nat} {x : Int32} (ho : kd o = 6) (hn : o < 105) (h6 : o ≠ 6) (h7 : o ≠ 7) (hT : TL σ 6) (hk0 : 0 ≤ (σ.1 o 2).toInt) (hk1 : (σ.1 o 2).toInt < 5) (hx : x = 3) (h : ∀ r : Int32, r.toInt = worV (σ.1 o 2).toInt (σ.1 o 3).toInt → Q (some (.int r)) (lvs 6 σ (worB (σ.1 o 2).toInt (σ.1 o 3).toInt))) : Z l G M_X6_answer (d + 10) 0 [some (.ref o), some (.int x), some (.ref 6)] [] σ Q := by
  subst hx
  refine z_sub (L' := [some (.ref o), some (.int 3), some (.ref 6)]) ⟨rfl, rfl, rfl, trivial⟩ ?_
  refine z_aload_n (pc := 0) dX6_answer_0 rfl ?_
  refine z_iload_n (pc := 1) dX6_answer_1 rfl ?_
  refine z_aload_n (pc := 2) dX6_answer_2 rfl ?_
  refine z_iconst (pc := 3) (v := 0) dX6_answer_3 (by decide) ?_
  refine z_iv3 (pc := 4) dX6_answer_4 kv_X6_32 ho hn (by decide) rfl rfl ?_
  refine c_bWor ho hn h6 h7 hT (by decide) (by decide) hk0 hk1 (fun r er => ?_)
  refine z_iret (pc := 7) dX6_answer_7 rfl ?_
  exact h r er

theorem c_answer {l : Launch} {G : Gx} {d : Nat} {σ : Sg} {Q : Option Value → Sg → Prop} {o : Nat} {x : Int32} (ho : kd o = 6) (hn : o < 105) (h6 : o ≠ 6) (h7 : o ≠ 7) (hT : TL σ 6) (hk0 : 0 ≤ (σ.1 o 2).toInt) (hk1 : (σ.1 o 2).toInt < 5) (hx0 : 0 ≤ x.toInt) (hx1 : x.toInt < 4) (h : ∀ r : Int32, r.toInt = asV x.toInt (σ.1 o 2).toInt (σ.1 o 3).toInt → Q (some (.int r)) (lvs 6 σ (asB x.toInt (σ.1 o 2).toInt (σ.1 o 3).toInt))) : Z l G M_X6_answer (d + 10) 0 [some (.ref o), some (.int x), some (.ref 6)] [] σ Q := by
  rcases (show x.toInt = 0 ∨ x.toInt = 1 ∨ x.toInt = 2 ∨ x.toInt = 3 by omega) with ek | ek | ek | ek <;> rw [ek] at h
  · exact c_ans0 ho hn h6 h7 hT hk0 hk1 (Int32.toInt_inj.mp (ek.trans rfl)) h
  · exact c_ans1 ho hn h6 h7 hT hk0 hk1 (Int32.toInt_inj.mp (ek.trans rfl)) h
  · exact c_ans2 ho hn h6 h7 hT hk0 hk1 (Int32.toInt_inj.mp (ek.trans rfl)) h
  · exact c_ans3 ho hn h6 h7 hT hk0 hk1 (Int32.toInt_inj.mp (ek.trans rfl)) h

theorem sAsk_1 {a : Ab} {p w : Int32} (h : ¬ (0 ≤ p.toInt ∧ p.toInt < (a.1.1 : Int)) ∨ in03 w.toInt 4 = false) : sAsk a p w = (-1000001, a) := if_pos h
theorem sAsk_2 {a : Ab} {p w : Int32} {i : Nat} (hi : i < a.1.1) (hp : p.toInt = (i : Int)) (hg : in03 w.toInt 4 = true) (h : (a.1.2 i).2.2.2.2 = true) : sAsk a p w = (-1000011, trTo a 1 []) := by
  have e : p.toInt.toNat = i := by omega
  unfold sAsk
  rw [e, if_neg (by rw [hg]; simp; omega), if_pos h]
theorem sAsk_3 {a : Ab} {p w : Int32} {i : Nat} (hi : i < a.1.1) (hp : p.toInt = (i : Int)) (hg : in03 w.toInt 4 = true) (h : (a.1.2 i).2.2.2.2 = false) : sAsk a p w = (asV w.toInt (a.1.2 i).2.2.1.toInt (a.1.2 i).2.2.2.1.toInt, trTo a 0 (asB w.toInt (a.1.2 i).2.2.1.toInt (a.1.2 i).2.2.2.1.toInt)) := by
  have e : p.toInt.toNat = i := by omega
  unfold sAsk
  rw [e, if_neg (by rw [hg]; simp; omega), if_neg (by rw [h]; decide)]

theorem c_X10_ask {l : Launch} {G : Gx} {d : Nat} {σ : Sg} {Q : Option Value → Sg → Prop} {a : Ab} {x1 x2 : Int32} (hr : rC σ a) (hk : abOk a) (h : ∀ (r : Int32) (τ : Sg), r.toInt = (sAsk a x1 x2).1 → rC τ (sAsk a x1 x2).2 → eqM σ τ → Q (some (.int r)) τ) : Z l G M_X10_ask (d + 11) 0 [some (.ref 0), some (.int x1), some (.int x2)] [] σ Q := by
  have hg := hr.1.1
  have hn := hk.1
  refine z_sub (L' := [some (.ref 0), some (.int x1), some (.int x2)]) ⟨rfl, rfl, rfl, trivial⟩ ?_
  refine z_aload_n (pc := 0) dX10_ask_0 rfl ?_
  refine z_iload_n (pc := 1) dX10_ask_1 rfl ?_
  refine z_iv1 (pc := 2) dX10_ask_2 kv_X10_155 rfl (by decide) (by decide) rfl rfl ?_
  refine c_X10_isGiven (fun q2 => ?_) (fun q2 => ?_)
  · skip
    refine z_if_eq (pc := 5) (tgt := 16) dX10_ask_5 rfl (fun hc => absurd hc (by decide)) (fun _ => ?_)
    refine z_iload_n (pc := 8) dX10_ask_8 rfl ?_
    refine z_iconst (pc := 9) (v := 4) dX10_ask_9 (by decide) ?_
    refine z_is2 (pc := 10) dX10_ask_10 ks_X10_88 rfl rfl ?_
    refine c_X10_isBelow (b := 4) (fun q10 => ?_) (fun q10 => ?_)
    · skip
      refine z_if_ne (pc := 13) (tgt := 19) dX10_ask_13 rfl (fun _ => ?_) (fun hc => absurd hc (by decide))
      obtain ⟨i, hi, hie⟩ : ∃ i : Nat, i < a.1.1 ∧ x1.toInt = (i : Int) := ⟨x1.toInt.toNat, by omega, by omega⟩
      have hp := hr.1.2 i hi
      have hpk := hk.2.1 i hi
      have h7 := hp.2.2.2.2.2.2.2
      have h3 : (4 : Int32).toInt = 4 := rfl
      have hgd : in03 x2.toInt 4 = true := decide_eq_true (by omega)
      refine z_aload_n (pc := 19) dX10_ask_19 rfl ?_
      refine z_getR (pc := 20) (t := 6) dX10_ask_20 fk_X10_35 rfl (by decide) (by decide) (by decide) rfl ?_
      refine z_iconst (pc := 23) (v := 0) dX10_ask_23 (by decide) ?_
      refine z_putI (pc := 24) dX10_ask_24 fk_X10_195 rfl (by decide) (by decide) (by decide) ?_
      refine z_aload_n (pc := 27) dX10_ask_27 rfl ?_
      refine z_getR (pc := 28) (t := 3) dX10_ask_28 fk_X10_18 rfl (by decide) (by decide) (by decide) rfl ?_
      refine z_iload_n (pc := 31) dX10_ask_31 rfl ?_
      refine z_aaldN (pc := 32) i (t := (65 + i)) dX10_ask_32 (Or.inr rfl) (by decide) hie (by show _ < 40; omega) rfl ?_
      refine z_getI (pc := 33) dX10_ask_33 fk_X10_158 kd_plant (by omega) (by decide) (by decide) ?_
      rw [uI_row (by omega)]
      refine zq_if_ne (pc := 36) (tgt := 45) dX10_ask_36 rfl rfl (fun h36 => ?_) (fun h36 => ?_)
      · skip
        refine z_aload_n (pc := 45) dX10_ask_45 rfl ?_
        refine z_aload_n (pc := 46) dX10_ask_46 rfl ?_
        refine z_getR (pc := 47) (t := 3) dX10_ask_47 fk_X10_18 rfl (by decide) (by decide) (by decide) rfl ?_
        refine z_iload_n (pc := 50) dX10_ask_50 rfl ?_
        refine z_aaldN (pc := 51) i (t := (65 + i)) dX10_ask_51 (Or.inr rfl) (by decide) hie (by show _ < 40; omega) rfl ?_
        refine z_iload_n (pc := 52) dX10_ask_52 rfl ?_
        refine z_aload_n (pc := 53) dX10_ask_53 rfl ?_
        refine z_getR (pc := 54) (t := 6) dX10_ask_54 fk_X10_35 rfl (by decide) (by decide) (by decide) rfl ?_
        refine z_iv2 (pc := 57) dX10_ask_57 kv_X10_198 kd_plant (by omega) (by decide) rfl rfl ?_
        have ek : (uI σ 6 1 0).1 (65 + i) 2 = (a.1.2 i).2.2.1 := by rw [uI_row (by omega)]; exact hp.2.2.1
        have ec : (uI σ 6 1 0).1 (65 + i) 3 = (a.1.2 i).2.2.2.1 := by rw [uI_row (by omega)]; exact hp.2.2.2.1
        refine c_answer kd_plant (by omega) (by omega) (by omega) ⟨Or.inl rfl, by rw [uI_eq]; decide, by rw [uI_eq]; decide⟩ (by rw [ek]; exact hpk.2.2.2.2.1) (by rw [ek]; exact hpk.2.2.2.2.2.1) (by omega) (by omega) (fun r er => ?_)
        rw [ek, ec] at er ⊢
        refine z_iv1 (pc := 60) dX10_ask_60 kv_X10_101 rfl (by decide) (by decide) rfl rfl ?_
        refine c_X10_done ?_
        refine z_iret (pc := 63) dX10_ask_63 rfl ?_
        have e : sAsk a x1 x2 = _ := sAsk_3 hi hie hgd (there_of h7 h36)
        exact h _ _ (by rw [e, er]) (by rw [e]; exact rC_ask hr (Nat.le_trans (asB_len _ _ _) (by decide))) (eqM_uI (eqM_lvs (eqM_uI eqM_rf rfl)) rfl)
      · skip
        refine z_aload_n (pc := 39) dX10_ask_39 rfl ?_
        refine z_iconst (pc := 40) (v := 1) dX10_ask_40 (by decide) ?_
        refine z_iv1 (pc := 41) dX10_ask_41 kv_X10_93 rfl (by decide) (by decide) rfl rfl ?_
        refine c_X10_found (by decide) (by decide) (fun r er => ?_)
        refine z_iret (pc := 44) dX10_ask_44 rfl ?_
        have e : sAsk a x1 x2 = _ := sAsk_2 hi hie hgd (away_of h7 h36)
        exact h _ _ (by rw [e, er]; rfl) (by rw [e]; exact rC_ask (bs := []) hr (by decide)) (eqM_uI (eqM_uI eqM_rf rfl) rfl)
    · skip
      refine z_if_ne (pc := 13) (tgt := 19) dX10_ask_13 rfl (fun hc => absurd hc (by decide)) (fun _ => ?_)
      refine z_ldc (pc := 16) dX10_ask_16 kc_X10_92 ?_
      refine z_iret (pc := 18) dX10_ask_18 rfl ?_
      have h3 : (4 : Int32).toInt = 4 := rfl
      have hor : ¬ (0 ≤ x1.toInt ∧ x1.toInt < (a.1.1 : Int)) ∨ in03 x2.toInt 4 = false := by first | exact Or.inl (by omega) | exact Or.inr (decide_eq_false (by omega))
      have e : sAsk a x1 x2 = _ := sAsk_1 hor
      exact h _ _ (by rw [e]; rfl) (by rw [e]; exact hr) eqM_rf
  · skip
    refine z_if_eq (pc := 5) (tgt := 16) dX10_ask_5 rfl (fun _ => ?_) (fun hc => absurd hc (by decide))
    refine z_ldc (pc := 16) dX10_ask_16 kc_X10_92 ?_
    refine z_iret (pc := 18) dX10_ask_18 rfl ?_
    have h3 : (4 : Int32).toInt = 4 := rfl
    have hor : ¬ (0 ≤ x1.toInt ∧ x1.toInt < (a.1.1 : Int)) ∨ in03 x2.toInt 4 = false := by first | exact Or.inl (by omega) | exact Or.inr (decide_eq_false (by omega))
    have e : sAsk a x1 x2 = _ := sAsk_1 hor
    exact h _ _ (by rw [e]; rfl) (by rw [e]; exact hr) eqM_rf
