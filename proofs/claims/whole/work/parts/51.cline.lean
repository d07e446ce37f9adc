/-! lines -/
theorem mulb {a b p q : Int} (h1 : -p ≤ a) (h2 : a ≤ p) (h3 : -q ≤ b) (h4 : b ≤ q) : -(p * q) ≤ a * b ∧ a * b ≤ p * q := by
  have e := Int.natAbs_mul a b
  have h := Nat.mul_le_mul (show a.natAbs ≤ p.natAbs by omega) (show b.natAbs ≤ q.natAbs by omega)
  have e2 := Int.natAbs_mul p q
  have hp : 0 ≤ p * q := Int.mul_nonneg (by omega) (by omega)
  omega
theorem gg_pos {A B : Int} (h : A ≠ 0 ∨ B ≠ 0) : 0 < gg A B := by
  unfold gg
  rcases h with h | h
  · exact Nat.gcd_pos_of_pos_left _ (by omega)
  · exact Nat.gcd_pos_of_pos_right _ (by omega)
theorem gg_le {A B : Int} {m : Nat} (h : A ≠ 0 ∨ B ≠ 0) (ha : A.natAbs ≤ m) (hb : B.natAbs ≤ m) : gg A B ≤ m := by
  unfold gg
  rcases h with h | h
  · exact Nat.le_trans (Nat.gcd_le_left _ (by omega)) ha
  · exact Nat.le_trans (Nat.gcd_le_right _ (by omega)) hb
theorem g3_pos {A B : Int} (C : Int) (h : A ≠ 0 ∨ B ≠ 0) : 0 < g3 A B C := gg_pos (Or.inl (by have := gg_pos h; omega))
theorem g3_le {A B C : Int} {m : Nat} (h : A ≠ 0 ∨ B ≠ 0) (ha : A.natAbs ≤ m) (hb : B.natAbs ≤ m) (hc : C.natAbs ≤ m) : g3 A B C ≤ m := by
  have := gg_pos h
  have := gg_le h ha hb
  exact gg_le (Or.inl (by omega)) (by omega) hc
theorem gg_neg (A B : Int) : gg (-A) (-B) = gg A B := by unfold gg; rw [Int.natAbs_neg, Int.natAbs_neg]
theorem gg_negr (A B : Int) : gg A (-B) = gg A B := by unfold gg; rw [Int.natAbs_neg]
theorem g3_neg (A B C : Int) : g3 (-A) (-B) (-C) = g3 A B C := by unfold g3; rw [gg_neg, gg_negr]
theorem tdiv_abs {a : Int} {g m : Nat} (hg : 0 < g) (h : a.natAbs ≤ m) : (a.tdiv (g : Int)).natAbs ≤ m := by
  have := t_tdiv (a := a) (b := (g : Int)) (by omega)
  rcases Int.le_total 0 a with h0 | h0
  · have := this.1 h0; omega
  · have := this.2 h0; omega
theorem lnN_abs {A B C : Int} {m : Nat} (h : A ≠ 0 ∨ B ≠ 0) (ha : A.natAbs ≤ m) (hb : B.natAbs ≤ m) (hc : C.natAbs ≤ m) : (lnN A B C).1.natAbs ≤ m ∧ (lnN A B C).2.1.natAbs ≤ m ∧ (lnN A B C).2.2.natAbs ≤ m := by
  have hg := g3_pos C h
  unfold lnN
  split
  · exact ⟨tdiv_abs hg (by omega), tdiv_abs hg (by omega), tdiv_abs hg (by omega)⟩
  · exact ⟨tdiv_abs hg ha, tdiv_abs hg hb, tdiv_abs hg hc⟩
def isLn (σ : Sg) (o : Nat) (t : Int × Int × Int) : Prop := (σ.1 o 0).toInt = t.1 ∧ (σ.1 o 1).toInt = t.2.1 ∧ (σ.1 o 2).toInt = t.2.2

theorem c_X4_become {l : Launch} {G : Gx} {d : Nat} {σ : Sg} {Q : Option Value → Sg → Prop} {o : Nat} {x1 x2 x3 : Int32} (ho : kd o = 4) (hn : o < 105) (h1 : x1.toInt.natAbs ≤ 1000000) (h2 : x2.toInt.natAbs ≤ 1000000) (h3 : x3.toInt.natAbs ≤ 1000000) (h0 : x1.toInt ≠ 0 ∨ x2.toInt ≠ 0) (h : ∀ τ, isLn τ o (x1.toInt.tdiv (g3 x1.toInt x2.toInt x3.toInt), x2.toInt.tdiv (g3 x1.toInt x2.toInt x3.toInt), x3.toInt.tdiv (g3 x1.toInt x2.toInt x3.toInt)) → (∀ a, a ≠ o → τ.1 a = σ.1 a) → τ.2 = σ.2 → Q none τ) : Z l G M_X4_become (d + 1) 0 [some (.ref o), some (.int x1), some (.int x2), some (.int x3)] [] σ Q := by
  have hg1 := gg_le h0 h1 h2
  have hg3 := g3_le h0 h1 h2 h3
  have hp3 := g3_pos x3.toInt h0
  refine z_sub (L' := [some (.ref o), some (.int x1), some (.int x2), some (.int x3), none]) ⟨rfl, rfl, rfl, rfl, trivial⟩ ?_
  refine z_aload_n (pc := 0) dX4_become_0 rfl ?_
  refine z_iload_n (pc := 1) dX4_become_1 rfl ?_
  refine z_putI (pc := 2) dX4_become_2 fk_X4_9 ho hn (by decide) (by decide) ?_
  refine z_aload_n (pc := 5) dX4_become_5 rfl ?_
  refine z_iload_n (pc := 6) dX4_become_6 rfl ?_
  refine z_putI (pc := 7) dX4_become_7 fk_X4_15 ho hn (by decide) (by decide) ?_
  refine z_aload_n (pc := 10) dX4_become_10 rfl ?_
  refine z_iload_n (pc := 11) dX4_become_11 rfl ?_
  refine z_putI (pc := 12) dX4_become_12 fk_X4_18 ho hn (by decide) (by decide) ?_
  refine z_aload_n (pc := 15) dX4_become_15 rfl ?_
  refine z_getI (pc := 16) dX4_become_16 fk_X4_9 ho hn (by decide) (by decide) ?_
  simp (disch := omega) only [uI_row, uI_2, uI_nk, uI_no, uI_eq]
  refine z_i2lT (pc := 19) dX4_become_19 rfl (fun v19 e19 => ?_)
  refine z_aload_n (pc := 20) dX4_become_20 rfl ?_
  refine z_getI (pc := 21) dX4_become_21 fk_X4_15 ho hn (by decide) (by decide) ?_
  simp (disch := omega) only [uI_row, uI_2, uI_nk, uI_no, uI_eq]
  refine z_i2lT (pc := 24) dX4_become_24 rfl (fun v24 e24 => ?_)
  refine z_is2 (pc := 25) dX4_become_25 ks_X4_21 rfl rfl ?_
  refine c_cd (by omega) (by omega) (fun g1 eg1 => ?_)
  rw [e19, e24] at eg1
  refine z_aload_n (pc := 28) dX4_become_28 rfl ?_
  refine z_getI (pc := 29) dX4_become_29 fk_X4_18 ho hn (by decide) (by decide) ?_
  simp (disch := omega) only [uI_row, uI_2, uI_nk, uI_no, uI_eq]
  refine z_i2lT (pc := 32) dX4_become_32 rfl (fun v32 e32 => ?_)
  refine z_is2 (pc := 33) dX4_become_33 ks_X4_21 rfl rfl ?_
  refine c_cd (by omega) (by omega) (fun g2 eg2 => ?_)
  rw [eg1, e32] at eg2
  change g2.toInt = (g3 x1.toInt x2.toInt x3.toInt : Int) at eg2
  refine z_l2iT (pc := 36) dX4_become_36 rfl (by omega) (by omega) (fun v36 e36 => ?_)
  refine z_istore (pc := 37) dX4_become_37 rfl rfl (by dsimp only [setI, setL, List.set]) ?_
  refine z_iload (pc := 39) dX4_become_39 rfl ?_
  refine z_iconst (pc := 41) (v := 1) dX4_become_41 (by decide) ?_
  refine zq_icmp_le (pc := 42) (cy := 1) (tgt := 78) dX4_become_42 rfl rfl (by decide) (fun h42 => ?_) (fun h42 => ?_)
  · skip
    refine z_vret (pc := 78) dX4_become_78 rfl ?_
    first
    | (have e1 : (g3 x1.toInt x2.toInt x3.toInt : Int) = 1 := (by omega)
       rw [e1, Int.tdiv_one, Int.tdiv_one, Int.tdiv_one] at h
       refine h _ ⟨?_, ?_, ?_⟩ (fun z hz => ?_) rfl
       · simp (disch := omega) only [uI_row, uI_2, uI_nk, uI_no, uI_eq]
       · simp (disch := omega) only [uI_row, uI_2, uI_nk, uI_no, uI_eq]
       · simp (disch := omega) only [uI_row, uI_2, uI_nk, uI_no, uI_eq]
       · simp (disch := omega) only [uI_row, uI_2, uI_nk, uI_no, uI_eq])
    | (refine h _ ⟨?_, ?_, ?_⟩ (fun z hz => ?_) rfl
       · simp (disch := omega) only [uI_row, uI_2, uI_nk, uI_no, uI_eq]; rw [e52, e36, eg2]
       · simp (disch := omega) only [uI_row, uI_2, uI_nk, uI_no, uI_eq]; rw [e63, e36, eg2]
       · simp (disch := omega) only [uI_row, uI_2, uI_nk, uI_no, uI_eq]; rw [e74, e36, eg2]
       · simp (disch := omega) only [uI_row, uI_2, uI_nk, uI_no, uI_eq])
  · skip
    refine z_aload_n (pc := 45) dX4_become_45 rfl ?_
    refine z_aload_n (pc := 46) dX4_become_46 rfl ?_
    refine z_getI (pc := 47) dX4_become_47 fk_X4_9 ho hn (by decide) (by decide) ?_
    simp (disch := omega) only [uI_row, uI_2, uI_nk, uI_no, uI_eq]
    refine z_iload (pc := 50) dX4_become_50 rfl ?_
    refine z_idivT (pc := 52) dX4_become_52 rfl rfl (by omega) (fun v52 e52 => ?_)
    refine z_putI (pc := 53) dX4_become_53 fk_X4_9 ho hn (by decide) (by decide) ?_
    refine z_aload_n (pc := 56) dX4_become_56 rfl ?_
    refine z_aload_n (pc := 57) dX4_become_57 rfl ?_
    refine z_getI (pc := 58) dX4_become_58 fk_X4_15 ho hn (by decide) (by decide) ?_
    simp (disch := omega) only [uI_row, uI_2, uI_nk, uI_no, uI_eq]
    refine z_iload (pc := 61) dX4_become_61 rfl ?_
    refine z_idivT (pc := 63) dX4_become_63 rfl rfl (by omega) (fun v63 e63 => ?_)
    refine z_putI (pc := 64) dX4_become_64 fk_X4_15 ho hn (by decide) (by decide) ?_
    refine z_aload_n (pc := 67) dX4_become_67 rfl ?_
    refine z_aload_n (pc := 68) dX4_become_68 rfl ?_
    refine z_getI (pc := 69) dX4_become_69 fk_X4_18 ho hn (by decide) (by decide) ?_
    simp (disch := omega) only [uI_row, uI_2, uI_nk, uI_no, uI_eq]
    refine z_iload (pc := 72) dX4_become_72 rfl ?_
    refine z_idivT (pc := 74) dX4_become_74 rfl rfl (by omega) (fun v74 e74 => ?_)
    refine z_putI (pc := 75) dX4_become_75 fk_X4_18 ho hn (by decide) (by decide) ?_
    refine z_vret (pc := 78) dX4_become_78 rfl ?_
    first
    | (have e1 : (g3 x1.toInt x2.toInt x3.toInt : Int) = 1 := (by omega)
       rw [e1, Int.tdiv_one, Int.tdiv_one, Int.tdiv_one] at h
       refine h _ ⟨?_, ?_, ?_⟩ (fun z hz => ?_) rfl
       · simp (disch := omega) only [uI_row, uI_2, uI_nk, uI_no, uI_eq]
       · simp (disch := omega) only [uI_row, uI_2, uI_nk, uI_no, uI_eq]
       · simp (disch := omega) only [uI_row, uI_2, uI_nk, uI_no, uI_eq]
       · simp (disch := omega) only [uI_row, uI_2, uI_nk, uI_no, uI_eq])
    | (refine h _ ⟨?_, ?_, ?_⟩ (fun z hz => ?_) rfl
       · simp (disch := omega) only [uI_row, uI_2, uI_nk, uI_no, uI_eq]; rw [e52, e36, eg2]
       · simp (disch := omega) only [uI_row, uI_2, uI_nk, uI_no, uI_eq]; rw [e63, e36, eg2]
       · simp (disch := omega) only [uI_row, uI_2, uI_nk, uI_no, uI_eq]; rw [e74, e36, eg2]
       · simp (disch := omega) only [uI_row, uI_2, uI_nk, uI_no, uI_eq])

theorem cEq (x1 y1 x2 y2 : Int) : -((y1 - y2) * x1 + (x2 - x1) * y1) = x1 * y2 - x2 * y1 := by grind

theorem c_X4_join {l : Launch} {G : Gx} {d : Nat} {σ : Sg} {Q : Option Value → Sg → Prop} {o : Nat} {x1 y1 x2 y2 : Int32} (ho : kd o = 4) (hn : o < 105) (b1 : -300 ≤ x1.toInt ∧ x1.toInt ≤ 300) (b2 : -300 ≤ y1.toInt ∧ y1.toInt ≤ 300) (b3 : -300 ≤ x2.toInt ∧ x2.toInt ≤ 300) (b4 : -300 ≤ y2.toInt ∧ y2.toInt ≤ 300) (ha : x1.toInt ≠ x2.toInt ∨ y1.toInt ≠ y2.toInt) (h : ∀ τ, isLn τ o (lnT x1.toInt y1.toInt x2.toInt y2.toInt) → (∀ a, a ≠ o → τ.1 a = σ.1 a) → τ.2 = σ.2 → Q none τ) : Z l G M_X4_join (d + 2) 0 [some (.ref o), some (.int x1), some (.int y1), some (.int x2), some (.int y2)] [] σ Q := by
  refine z_sub (L' := [some (.ref o), some (.int x1), some (.int y1), some (.int x2), some (.int y2), none, none, none]) ⟨rfl, rfl, rfl, rfl, rfl, trivial⟩ ?_
  refine z_iload_n (pc := 0) dX4_join_0 rfl ?_
  refine z_iload (pc := 1) dX4_join_1 rfl ?_
  refine z_isubT (pc := 3) dX4_join_3 rfl rfl (by omega) (by omega) (fun v3 e3 => ?_)
  refine z_istore (pc := 4) dX4_join_4 rfl rfl (by dsimp only [setI, setL, List.set]) ?_
  refine z_iload_n (pc := 6) dX4_join_6 rfl ?_
  refine z_iload_n (pc := 7) dX4_join_7 rfl ?_
  refine z_isubT (pc := 8) dX4_join_8 rfl rfl (by omega) (by omega) (fun v8 e8 => ?_)
  refine z_istore (pc := 9) dX4_join_9 rfl rfl (by dsimp only [setI, setL, List.set]) ?_
  refine z_iload (pc := 11) dX4_join_11 rfl ?_
  have m1 := mulb (a := v3.toInt) (b := x1.toInt) (p := 600) (q := 300) (by omega) (by omega) (by omega) (by omega)
  have m2 := mulb (a := v8.toInt) (b := y1.toInt) (p := 600) (q := 300) (by omega) (by omega) (by omega) (by omega)
  refine z_iload_n (pc := 13) dX4_join_13 rfl ?_
  refine z_imulT (pc := 14) dX4_join_14 rfl rfl (by omega) (by omega) (fun v14 e14 => ?_)
  refine z_iload (pc := 15) dX4_join_15 rfl ?_
  refine z_iload_n (pc := 17) dX4_join_17 rfl ?_
  refine z_imulT (pc := 18) dX4_join_18 rfl rfl (by omega) (by omega) (fun v18 e18 => ?_)
  refine z_iaddT (pc := 19) dX4_join_19 rfl rfl (by omega) (by omega) (fun v19 e19 => ?_)
  refine z_inegT (pc := 20) dX4_join_20 rfl (by omega) (by omega) (fun v20 e20 => ?_)
  refine z_istore (pc := 21) dX4_join_21 rfl rfl (by dsimp only [setI, setL, List.set]) ?_
  have eC : v20.toInt = x1.toInt * y2.toInt - x2.toInt * y1.toInt := by rw [e20, e19, e14, e18, e3, e8]; exact cEq _ _ _ _
  refine z_iload (pc := 23) dX4_join_23 rfl ?_
  refine zq_if_lt (pc := 25) (tgt := 38) dX4_join_25 rfl rfl (fun h25 => ?_) (fun h25 => ?_)
  · skip
    refine z_aload_n (pc := 38) dX4_join_38 rfl ?_
    refine z_iload (pc := 39) dX4_join_39 rfl ?_
    refine z_inegT (pc := 41) dX4_join_41 rfl (by omega) (by omega) (fun v41 e41 => ?_)
    refine z_iload (pc := 42) dX4_join_42 rfl ?_
    refine z_inegT (pc := 44) dX4_join_44 rfl (by omega) (by omega) (fun v44 e44 => ?_)
    refine z_iload (pc := 45) dX4_join_45 rfl ?_
    refine z_inegT (pc := 47) dX4_join_47 rfl (by omega) (by omega) (fun v47 e47 => ?_)
    refine z_iv3 (pc := 48) dX4_join_48 kv_X4_25 ho hn (by decide) rfl rfl ?_
    refine c_X4_become ho hn (by omega) (by omega) (by omega) (by omega) (fun τ hL hrow h2 => ?_)
    refine z_goto (pc := 51) (tgt := 64) dX4_join_51 rfl ?_
    refine z_vret (pc := 64) dX4_join_64 rfl ?_
    refine h τ ?_ hrow h2
    unfold lnT lnN
    first
    | (rw [if_pos (by omega)]
       rw [e41, e44, e47, g3_neg, e3, e8, eC] at hL
       exact hL)
    | (rw [if_neg (by omega)]
       rw [e3, e8, eC] at hL
       exact hL)
  · skip
    refine z_iload (pc := 28) dX4_join_28 rfl ?_
    refine zq_if_ne (pc := 30) (tgt := 54) dX4_join_30 rfl rfl (fun h30 => ?_) (fun h30 => ?_)
    · skip
      refine z_aload_n (pc := 54) dX4_join_54 rfl ?_
      refine z_iload (pc := 55) dX4_join_55 rfl ?_
      refine z_iload (pc := 57) dX4_join_57 rfl ?_
      refine z_iload (pc := 59) dX4_join_59 rfl ?_
      refine z_iv3 (pc := 61) dX4_join_61 kv_X4_25 ho hn (by decide) rfl rfl ?_
      refine c_X4_become ho hn (by omega) (by omega) (by omega) (by omega) (fun τ hL hrow h2 => ?_)
      refine z_vret (pc := 64) dX4_join_64 rfl ?_
      refine h τ ?_ hrow h2
      unfold lnT lnN
      first
      | (rw [if_pos (by omega)]
         rw [e41, e44, e47, g3_neg, e3, e8, eC] at hL
         exact hL)
      | (rw [if_neg (by omega)]
         rw [e3, e8, eC] at hL
         exact hL)
    · skip
      refine z_iload (pc := 33) dX4_join_33 rfl ?_
      refine zq_if_ge (pc := 35) (tgt := 54) dX4_join_35 rfl rfl (fun h35 => ?_) (fun h35 => ?_)
      · skip
        refine z_aload_n (pc := 54) dX4_join_54 rfl ?_
        refine z_iload (pc := 55) dX4_join_55 rfl ?_
        refine z_iload (pc := 57) dX4_join_57 rfl ?_
        refine z_iload (pc := 59) dX4_join_59 rfl ?_
        refine z_iv3 (pc := 61) dX4_join_61 kv_X4_25 ho hn (by decide) rfl rfl ?_
        refine c_X4_become ho hn (by omega) (by omega) (by omega) (by omega) (fun τ hL hrow h2 => ?_)
        refine z_vret (pc := 64) dX4_join_64 rfl ?_
        refine h τ ?_ hrow h2
        unfold lnT lnN
        first
        | (rw [if_pos (by omega)]
           rw [e41, e44, e47, g3_neg, e3, e8, eC] at hL
           exact hL)
        | (rw [if_neg (by omega)]
           rw [e3, e8, eC] at hL
           exact hL)
      · skip
        refine z_aload_n (pc := 38) dX4_join_38 rfl ?_
        refine z_iload (pc := 39) dX4_join_39 rfl ?_
        refine z_inegT (pc := 41) dX4_join_41 rfl (by omega) (by omega) (fun v41 e41 => ?_)
        refine z_iload (pc := 42) dX4_join_42 rfl ?_
        refine z_inegT (pc := 44) dX4_join_44 rfl (by omega) (by omega) (fun v44 e44 => ?_)
        refine z_iload (pc := 45) dX4_join_45 rfl ?_
        refine z_inegT (pc := 47) dX4_join_47 rfl (by omega) (by omega) (fun v47 e47 => ?_)
        refine z_iv3 (pc := 48) dX4_join_48 kv_X4_25 ho hn (by decide) rfl rfl ?_
        refine c_X4_become ho hn (by omega) (by omega) (by omega) (by omega) (fun τ hL hrow h2 => ?_)
        refine z_goto (pc := 51) (tgt := 64) dX4_join_51 rfl ?_
        refine z_vret (pc := 64) dX4_join_64 rfl ?_
        refine h τ ?_ hrow h2
        unfold lnT lnN
        first
        | (rw [if_pos (by omega)]
           rw [e41, e44, e47, g3_neg, e3, e8, eC] at hL
           exact hL)
        | (rw [if_neg (by omega)]
           rw [e3, e8, eC] at hL
           exact hL)


theorem c_X4_sideOf {l : Launch} {G : Gx} {d : Nat} {σ : Sg} {Q : Option Value → Sg → Prop} {o : Nat} {x1 y1 : Int32} (ho : kd o = 4) (hn : o < 105) (b1 : -300 ≤ x1.toInt ∧ x1.toInt ≤ 300) (b2 : -300 ≤ y1.toInt ∧ y1.toInt ≤ 300) (l0 : (σ.1 o 0).toInt.natAbs ≤ 1000000) (l1 : (σ.1 o 1).toInt.natAbs ≤ 1000000) (l2 : (σ.1 o 2).toInt.natAbs ≤ 1000000) (h : Q (some (.int (sd ((σ.1 o 0).toInt * x1.toInt + (σ.1 o 1).toInt * y1.toInt + (σ.1 o 2).toInt)))) σ) : Z l G M_X4_sideOf (d) 0 [some (.ref o), some (.int x1), some (.int y1)] [] σ Q := by
  have m1 := mulb (a := (σ.1 o 0).toInt) (b := x1.toInt) (p := 1000000) (q := 300) (by omega) (by omega) (by omega) (by omega)
  have m2 := mulb (a := (σ.1 o 1).toInt) (b := y1.toInt) (p := 1000000) (q := 300) (by omega) (by omega) (by omega) (by omega)
  refine z_sub (L' := [some (.ref o), some (.int x1), some (.int y1), none, none]) ⟨rfl, rfl, rfl, trivial⟩ ?_
  refine z_aload_n (pc := 0) dX4_sideOf_0 rfl ?_
  refine z_getI (pc := 1) dX4_sideOf_1 fk_X4_9 ho hn (by decide) (by decide) ?_
  refine z_i2lT (pc := 4) dX4_sideOf_4 rfl (fun v4 e4 => ?_)
  refine z_iload_n (pc := 5) dX4_sideOf_5 rfl ?_
  refine z_i2lT (pc := 6) dX4_sideOf_6 rfl (fun v6 e6 => ?_)
  refine z_lmulT (pc := 7) dX4_sideOf_7 rfl rfl (by rw [e4, e6]; omega) (by rw [e4, e6]; omega) (fun v7 e7 => ?_)
  refine z_aload_n (pc := 8) dX4_sideOf_8 rfl ?_
  refine z_getI (pc := 9) dX4_sideOf_9 fk_X4_15 ho hn (by decide) (by decide) ?_
  refine z_i2lT (pc := 12) dX4_sideOf_12 rfl (fun v12 e12 => ?_)
  refine z_iload_n (pc := 13) dX4_sideOf_13 rfl ?_
  refine z_i2lT (pc := 14) dX4_sideOf_14 rfl (fun v14 e14 => ?_)
  refine z_lmulT (pc := 15) dX4_sideOf_15 rfl rfl (by rw [e12, e14]; omega) (by rw [e12, e14]; omega) (fun v15 e15 => ?_)
  refine z_laddT (pc := 16) dX4_sideOf_16 rfl rfl (by rw [e7, e15, e4, e6, e12, e14]; omega) (by rw [e7, e15, e4, e6, e12, e14]; omega) (fun v16 e16 => ?_)
  refine z_aload_n (pc := 17) dX4_sideOf_17 rfl ?_
  refine z_getI (pc := 18) dX4_sideOf_18 fk_X4_18 ho hn (by decide) (by decide) ?_
  refine z_i2lT (pc := 21) dX4_sideOf_21 rfl (fun v21 e21 => ?_)
  refine z_laddT (pc := 22) dX4_sideOf_22 rfl rfl (by rw [e16, e7, e15, e4, e6, e12, e14, e21]; omega) (by rw [e16, e7, e15, e4, e6, e12, e14, e21]; omega) (fun v22 e22 => ?_)
  have ev : v22.toInt = (σ.1 o 0).toInt * x1.toInt + (σ.1 o 1).toInt * y1.toInt + (σ.1 o 2).toInt := by rw [e22, e16, e7, e15, e4, e6, e12, e14, e21]
  rw [← ev] at h
  refine z_lstore_n (pc := 23) dX4_sideOf_23 rfl rfl (by dsimp only [setI, setL, List.set]) ?_
  refine z_lload_n (pc := 24) dX4_sideOf_24 rfl ?_
  refine z_lconst (pc := 25) (v := 0) dX4_sideOf_25 (by decide) ?_
  refine zq_lc_ne (pc := 26) (cy := 0) (tgt := 32) dX4_sideOf_26 dX4_sideOf_27 rfl rfl (by decide) (fun h26 => ?_) (fun h26 => ?_)
  · skip
    refine z_lload_n (pc := 32) dX4_sideOf_32 rfl ?_
    refine z_lconst (pc := 33) (v := 0) dX4_sideOf_33 (by decide) ?_
    refine zq_lc_le (pc := 34) (cy := 0) (tgt := 42) dX4_sideOf_34 dX4_sideOf_35 rfl rfl (by decide) (fun h34 => ?_) (fun h34 => ?_)
    · skip
      refine z_iconst (pc := 42) (v := 2) dX4_sideOf_42 (by decide) ?_
      refine z_iret (pc := 43) dX4_sideOf_43 rfl ?_
      first | (rw [show sd v22.toInt = 1 from if_pos (by omega)] at h; exact h) | (rw [show sd v22.toInt = 0 from (if_neg (by omega)).trans (if_pos (by omega))] at h; exact h) | (rw [show sd v22.toInt = 2 from (if_neg (by omega)).trans (if_neg (by omega))] at h; exact h)
    · skip
      refine z_iconst (pc := 38) (v := 0) dX4_sideOf_38 (by decide) ?_
      refine z_goto (pc := 39) (tgt := 43) dX4_sideOf_39 rfl ?_
      refine z_iret (pc := 43) dX4_sideOf_43 rfl ?_
      first | (rw [show sd v22.toInt = 1 from if_pos (by omega)] at h; exact h) | (rw [show sd v22.toInt = 0 from (if_neg (by omega)).trans (if_pos (by omega))] at h; exact h) | (rw [show sd v22.toInt = 2 from (if_neg (by omega)).trans (if_neg (by omega))] at h; exact h)
  · skip
    refine z_iconst (pc := 30) (v := 1) dX4_sideOf_30 (by decide) ?_
    refine z_iret (pc := 31) dX4_sideOf_31 rfl ?_
    first | (rw [show sd v22.toInt = 1 from if_pos (by omega)] at h; exact h) | (rw [show sd v22.toInt = 0 from (if_neg (by omega)).trans (if_pos (by omega))] at h; exact h) | (rw [show sd v22.toInt = 2 from (if_neg (by omega)).trans (if_neg (by omega))] at h; exact h)
