def lnTo (a : Ab) (f : Int32) (t : Int × Int × Int) : Ab := (a.1, a.2.1, f, a.2.2.2.1, (Int32.ofInt t.1, Int32.ofInt t.2.1, Int32.ofInt t.2.2), a.2.2.2.2.2)
def sLine (a : Ab) (x y z : Int32) : Int × Ab :=
  if ¬ (-1000000 ≤ x.toInt ∧ x.toInt ≤ 1000000 ∧ -1000000 ≤ y.toInt ∧ y.toInt ≤ 1000000 ∧ -1000000 ≤ z.toInt ∧ z.toInt ≤ 1000000) then (-1000001, a)
  else if x.toInt = 0 ∧ y.toInt = 0 then (-1000002, a)
  else (1, lnTo a a.2.2.1 (x.toInt.tdiv (g3 x.toInt y.toInt z.toInt), y.toInt.tdiv (g3 x.toInt y.toInt z.toInt), z.toInt.tdiv (g3 x.toInt y.toInt z.toInt)))
def sThrough (a : Ab) (p q : Int32) : Int × Ab :=
  if ¬ (0 ≤ p.toInt ∧ p.toInt < (a.1.1 : Int) ∧ 0 ≤ q.toInt ∧ q.toInt < (a.1.1 : Int)) then (-1000001, a)
  else if (a.1.2 p.toInt.toNat).2.2.2.2 = true ∨ (a.1.2 q.toInt.toNat).2.2.2.2 = true then (-1000011, stat a 1)
  else if (a.1.2 p.toInt.toNat).1.toInt = (a.1.2 q.toInt.toNat).1.toInt ∧ (a.1.2 p.toInt.toNat).2.1.toInt = (a.1.2 q.toInt.toNat).2.1.toInt then (-1000002, a)
  else (1, lnTo a 0 (lnT (a.1.2 p.toInt.toNat).1.toInt (a.1.2 p.toInt.toNat).2.1.toInt (a.1.2 q.toInt.toNat).1.toInt (a.1.2 q.toInt.toNat).2.1.toInt))
section STH
variable {a : Ab} {p q : Int32} {i j : Nat}
theorem sThrough_1 (h : ¬ (0 ≤ p.toInt ∧ p.toInt < (a.1.1 : Int) ∧ 0 ≤ q.toInt ∧ q.toInt < (a.1.1 : Int))) : sThrough a p q = (-1000001, a) := if_pos h
theorem sThrough_2 (hi : i < a.1.1) (hj : j < a.1.1) (hp : p.toInt = (i : Int)) (hq : q.toInt = (j : Int)) (h : (a.1.2 i).2.2.2.2 = true ∨ (a.1.2 j).2.2.2.2 = true) : sThrough a p q = (-1000011, stat a 1) := by
  have e1 : p.toInt.toNat = i := by omega
  have e2 : q.toInt.toNat = j := by omega
  unfold sThrough
  rw [e1, e2, if_neg (by omega), if_pos h]
theorem sThrough_3 (hi : i < a.1.1) (hj : j < a.1.1) (hp : p.toInt = (i : Int)) (hq : q.toInt = (j : Int)) (h1 : (a.1.2 i).2.2.2.2 = false) (h2 : (a.1.2 j).2.2.2.2 = false) (h : (a.1.2 i).1.toInt = (a.1.2 j).1.toInt ∧ (a.1.2 i).2.1.toInt = (a.1.2 j).2.1.toInt) : sThrough a p q = (-1000002, a) := by
  have e1 : p.toInt.toNat = i := by omega
  have e2 : q.toInt.toNat = j := by omega
  unfold sThrough
  rw [e1, e2, if_neg (by omega), if_neg (by rw [h1, h2]; decide), if_pos h]
theorem sThrough_4 (hi : i < a.1.1) (hj : j < a.1.1) (hp : p.toInt = (i : Int)) (hq : q.toInt = (j : Int)) (h1 : (a.1.2 i).2.2.2.2 = false) (h2 : (a.1.2 j).2.2.2.2 = false) (h : ¬ ((a.1.2 i).1.toInt = (a.1.2 j).1.toInt ∧ (a.1.2 i).2.1.toInt = (a.1.2 j).2.1.toInt)) : sThrough a p q = (1, lnTo a 0 (lnT (a.1.2 i).1.toInt (a.1.2 i).2.1.toInt (a.1.2 j).1.toInt (a.1.2 j).2.1.toInt)) := by
  have e1 : p.toInt.toNat = i := by omega
  have e2 : q.toInt.toNat = j := by omega
  unfold sThrough
  rw [e1, e2, if_neg (by omega), if_neg (by rw [h1, h2]; decide), if_neg h]
end STH
def sLineAt (a : Ab) (k : Int32) : Int := if k.toInt = 0 then a.2.2.2.2.1.1.toInt else if k.toInt = 1 then a.2.2.2.2.1.2.1.toInt else if k.toInt = 2 then a.2.2.2.2.1.2.2.toInt else -1000001
theorem ofInt_eq {u : Int32} {t : Int} (h : u.toInt = t) : u = Int32.ofInt t := by
  rw [← h]
  exact (Int32.ofInt_toInt u).symm
theorem rC_ln {σ τ : Sg} {a : Ab} {f : Int32} {t : Int × Int × Int} (h : rC σ a) (hL : isLn τ 10 t) (h0 : τ.1 0 11 = σ.1 0 11) (hf : τ.1 0 12 = f) (hrow : ∀ o, o ≠ 0 → o ≠ 10 → τ.1 o = σ.1 o) (h2 : τ.2 = σ.2) : rC τ (lnTo a f t) := by
  obtain ⟨r1, r2, r3, r4, r5, r6, r7, r8⟩ := h
  exact ⟨rcP_cong h0 (fun i _ => hrow _ (by omega) (by omega)) r1, rcB_cong (fun o h1 h3 => ⟨hrow o (by omega) (by omega), by rw [h2]⟩) r2, hf, rcT_cong (fun o h1 h3 => hrow o (by omega) (by omega)) r4, ⟨ofInt_eq hL.1, ofInt_eq hL.2.1, ofInt_eq hL.2.2⟩, rcU_cong (hrow 4 (by omega) (by omega)) (hrow 5 (by omega) (by omega)) r6, CA_cong (fun o h1 h3 => ⟨hrow o (by omega) (by omega), by rw [h2]⟩) r7, fun o h1 h3 => by rw [hrow o (by omega) (by omega)]; exact r8 o h1 h3⟩
theorem eqM_row {σ τ : Sg} (hrow : ∀ o, o ≠ 10 → τ.1 o = σ.1 o) (h2 : τ.2 = σ.2) : eqM σ τ := fun o ho => by
  have h10 : o ≠ 10 := fun e => by rw [e] at ho; cases ho
  exact ⟨hrow o h10, by rw [h2]⟩

theorem c_X10_line {l : Launch} {G : Gx} {d : Nat} {σ : Sg} {Q : Option Value → Sg → Prop} {a : Ab} {x1 x2 x3 : Int32} (hr : rC σ a) (hk : abOk a) (h : ∀ (r : Int32) (τ : Sg), r.toInt = (sLine a x1 x2 x3).1 → rC τ (sLine a x1 x2 x3).2 → eqM σ τ → Q (some (.int r)) τ) : Z l G M_X10_line (d + 2) 0 [some (.ref 0), some (.int x1), some (.int x2), some (.int x3)] [] σ Q := by
  refine z_sub (L' := [some (.ref 0), some (.int x1), some (.int x2), some (.int x3)]) ⟨rfl, rfl, rfl, rfl, trivial⟩ ?_
  refine z_iload_n (pc := 0) dX10_line_0 rfl ?_
  refine z_i2lT (pc := 1) dX10_line_1 rfl (fun v1 e1 => ?_)
  refine z_ldc2 (pc := 2) dX10_line_2 kc_X10_223 ?_
  refine z_is2 (pc := 5) dX10_line_5 ks_X10_225 rfl rfl ?_
  refine c_X10_isWithin (by decide) (fun q5 => ?_) (fun q5 => ?_)
  · skip
    refine z_if_eq (pc := 8) (tgt := 33) dX10_line_8 rfl (fun hc => absurd hc (by decide)) (fun _ => ?_)
    refine z_iload_n (pc := 11) dX10_line_11 rfl ?_
    refine z_i2lT (pc := 12) dX10_line_12 rfl (fun v12 e12 => ?_)
    refine z_ldc2 (pc := 13) dX10_line_13 kc_X10_223 ?_
    refine z_is2 (pc := 16) dX10_line_16 ks_X10_225 rfl rfl ?_
    refine c_X10_isWithin (by decide) (fun q16 => ?_) (fun q16 => ?_)
    · skip
      refine z_if_eq (pc := 19) (tgt := 33) dX10_line_19 rfl (fun hc => absurd hc (by decide)) (fun _ => ?_)
      refine z_iload_n (pc := 22) dX10_line_22 rfl ?_
      refine z_i2lT (pc := 23) dX10_line_23 rfl (fun v23 e23 => ?_)
      refine z_ldc2 (pc := 24) dX10_line_24 kc_X10_223 ?_
      refine z_is2 (pc := 27) dX10_line_27 ks_X10_225 rfl rfl ?_
      refine c_X10_isWithin (by decide) (fun q27 => ?_) (fun q27 => ?_)
      · skip
        refine z_if_ne (pc := 30) (tgt := 36) dX10_line_30 rfl (fun _ => ?_) (fun hc => absurd hc (by decide))
        have fm : (1000000 : Int64).toInt = 1000000 := rfl
        refine z_iload_n (pc := 36) dX10_line_36 rfl ?_
        refine zq_if_ne (pc := 37) (tgt := 47) dX10_line_37 rfl rfl (fun h37 => ?_) (fun h37 => ?_)
        · skip
          refine z_aload_n (pc := 47) dX10_line_47 rfl ?_
          refine z_getR (pc := 48) (t := 10) dX10_line_48 fk_X10_45 rfl (by decide) (by decide) (by decide) rfl ?_
          refine z_iload_n (pc := 51) dX10_line_51 rfl ?_
          refine z_iload_n (pc := 52) dX10_line_52 rfl ?_
          refine z_iload_n (pc := 53) dX10_line_53 rfl ?_
          refine z_iv3 (pc := 54) dX10_line_54 kv_X10_229 rfl (by decide) (by decide) rfl rfl ?_
          refine c_X4_become rfl (by decide) (by omega) (by omega) (by omega) (by omega) (fun τ hL hrow h2 => ?_)
          refine z_iconst (pc := 57) (v := 1) dX10_line_57 (by decide) ?_
          refine z_iret (pc := 58) dX10_line_58 rfl ?_
          have e : sLine a x1 x2 x3 = _ := (if_neg (by omega)).trans (if_neg (by omega))
          exact h _ _ (by rw [e]; rfl) (by rw [e]; exact rC_ln hr hL (by rw [hrow 0 (by omega)]) (by rw [hrow 0 (by omega)]; exact hr.2.2.1) (fun o _ h10 => hrow o h10) h2) (eqM_row hrow h2)
        · skip
          refine z_iload_n (pc := 40) dX10_line_40 rfl ?_
          refine zq_if_ne (pc := 41) (tgt := 47) dX10_line_41 rfl rfl (fun h41 => ?_) (fun h41 => ?_)
          · skip
            refine z_aload_n (pc := 47) dX10_line_47 rfl ?_
            refine z_getR (pc := 48) (t := 10) dX10_line_48 fk_X10_45 rfl (by decide) (by decide) (by decide) rfl ?_
            refine z_iload_n (pc := 51) dX10_line_51 rfl ?_
            refine z_iload_n (pc := 52) dX10_line_52 rfl ?_
            refine z_iload_n (pc := 53) dX10_line_53 rfl ?_
            refine z_iv3 (pc := 54) dX10_line_54 kv_X10_229 rfl (by decide) (by decide) rfl rfl ?_
            refine c_X4_become rfl (by decide) (by omega) (by omega) (by omega) (by omega) (fun τ hL hrow h2 => ?_)
            refine z_iconst (pc := 57) (v := 1) dX10_line_57 (by decide) ?_
            refine z_iret (pc := 58) dX10_line_58 rfl ?_
            have e : sLine a x1 x2 x3 = _ := (if_neg (by omega)).trans (if_neg (by omega))
            exact h _ _ (by rw [e]; rfl) (by rw [e]; exact rC_ln hr hL (by rw [hrow 0 (by omega)]) (by rw [hrow 0 (by omega)]; exact hr.2.2.1) (fun o _ h10 => hrow o h10) h2) (eqM_row hrow h2)
          · skip
            refine z_ldc (pc := 44) dX10_line_44 kc_X10_213 ?_
            refine z_iret (pc := 46) dX10_line_46 rfl ?_
            have e : sLine a x1 x2 x3 = _ := (if_neg (by omega)).trans (if_pos (by omega))
            exact h _ _ (by rw [e]; rfl) (by rw [e]; exact hr) eqM_rf
      · skip
        refine z_if_ne (pc := 30) (tgt := 36) dX10_line_30 rfl (fun hc => absurd hc (by decide)) (fun _ => ?_)
        refine z_ldc (pc := 33) dX10_line_33 kc_X10_92 ?_
        refine z_iret (pc := 35) dX10_line_35 rfl ?_
        have fm : (1000000 : Int64).toInt = 1000000 := rfl
        have e : sLine a x1 x2 x3 = _ := if_pos (by omega)
        exact h _ _ (by rw [e]; rfl) (by rw [e]; exact hr) eqM_rf
    · skip
      refine z_if_eq (pc := 19) (tgt := 33) dX10_line_19 rfl (fun _ => ?_) (fun hc => absurd hc (by decide))
      refine z_ldc (pc := 33) dX10_line_33 kc_X10_92 ?_
      refine z_iret (pc := 35) dX10_line_35 rfl ?_
      have fm : (1000000 : Int64).toInt = 1000000 := rfl
      have e : sLine a x1 x2 x3 = _ := if_pos (by omega)
      exact h _ _ (by rw [e]; rfl) (by rw [e]; exact hr) eqM_rf
  · skip
    refine z_if_eq (pc := 8) (tgt := 33) dX10_line_8 rfl (fun _ => ?_) (fun hc => absurd hc (by decide))
    refine z_ldc (pc := 33) dX10_line_33 kc_X10_92 ?_
    refine z_iret (pc := 35) dX10_line_35 rfl ?_
    have fm : (1000000 : Int64).toInt = 1000000 := rfl
    have e : sLine a x1 x2 x3 = _ := if_pos (by omega)
    exact h _ _ (by rw [e]; rfl) (by rw [e]; exact hr) eqM_rf

theorem c_X10_through {l : Launch} {G : Gx} {d : Nat} {σ : Sg} {Q : Option Value → Sg → Prop} {a : Ab} {x1 x2 : Int32} (hr : rC σ a) (hk : abOk a) (h : ∀ (r : Int32) (τ : Sg), r.toInt = (sThrough a x1 x2).1 → rC τ (sThrough a x1 x2).2 → eqM σ τ → Q (some (.int r)) τ) : Z l G M_X10_through (d + 3) 0 [some (.ref 0), some (.int x1), some (.int x2)] [] σ Q := by
  have hg := hr.1.1
  have hn := hk.1
  refine z_sub (L' := [some (.ref 0), some (.int x1), some (.int x2), none, none]) ⟨rfl, rfl, rfl, trivial⟩ ?_
  refine z_aload_n (pc := 0) dX10_through_0 rfl ?_
  refine z_iload_n (pc := 1) dX10_through_1 rfl ?_
  refine z_iv1 (pc := 2) dX10_through_2 kv_X10_155 rfl (by decide) (by decide) rfl rfl ?_
  refine c_X10_isGiven (fun q2 => ?_) (fun q2 => ?_)
  · skip
    refine z_if_eq (pc := 5) (tgt := 16) dX10_through_5 rfl (fun hc => absurd hc (by decide)) (fun _ => ?_)
    refine z_aload_n (pc := 8) dX10_through_8 rfl ?_
    refine z_iload_n (pc := 9) dX10_through_9 rfl ?_
    refine z_iv1 (pc := 10) dX10_through_10 kv_X10_155 rfl (by decide) (by decide) rfl rfl ?_
    refine c_X10_isGiven (fun q10 => ?_) (fun q10 => ?_)
    · skip
      refine z_if_ne (pc := 13) (tgt := 19) dX10_through_13 rfl (fun _ => ?_) (fun hc => absurd hc (by decide))
      obtain ⟨i, hi, hie⟩ : ∃ i : Nat, i < a.1.1 ∧ x1.toInt = (i : Int) := ⟨x1.toInt.toNat, by omega, by omega⟩
      obtain ⟨j, hj, hje⟩ : ∃ j : Nat, j < a.1.1 ∧ x2.toInt = (j : Int) := ⟨x2.toInt.toNat, by omega, by omega⟩
      have hp := hr.1.2 i hi
      have hq := hr.1.2 j hj
      have hpk := hk.2.1 i hi
      have hqk := hk.2.1 j hj
      have ex1 : (σ.1 (65 + i) 0).toInt = (a.1.2 i).1.toInt := by rw [hp.1]
      have ey1 : (σ.1 (65 + i) 1).toInt = (a.1.2 i).2.1.toInt := by rw [hp.2.1]
      have ex2 : (σ.1 (65 + j) 0).toInt = (a.1.2 j).1.toInt := by rw [hq.1]
      have ey2 : (σ.1 (65 + j) 1).toInt = (a.1.2 j).2.1.toInt := by rw [hq.2.1]
      refine z_aload_n (pc := 19) dX10_through_19 rfl ?_
      refine z_getR (pc := 20) (t := 3) dX10_through_20 fk_X10_18 rfl (by decide) (by decide) (by decide) rfl ?_
      refine z_iload_n (pc := 23) dX10_through_23 rfl ?_
      refine z_aaldN (pc := 24) i (t := (65 + i)) dX10_through_24 (Or.inr rfl) (by decide) hie (by show _ < 40; omega) rfl ?_
      refine z_astore_n (pc := 25) dX10_through_25 rfl rfl (by dsimp only [setI, setL, List.set]) ?_
      refine z_aload_n (pc := 26) dX10_through_26 rfl ?_
      refine z_getR (pc := 27) (t := 3) dX10_through_27 fk_X10_18 rfl (by decide) (by decide) (by decide) rfl ?_
      refine z_iload_n (pc := 30) dX10_through_30 rfl ?_
      refine z_aaldN (pc := 31) j (t := (65 + j)) dX10_through_31 (Or.inr rfl) (by decide) hje (by show _ < 40; omega) rfl ?_
      refine z_astore (pc := 32) dX10_through_32 rfl rfl (by dsimp only [setI, setL, List.set]) ?_
      refine z_aload_n (pc := 34) dX10_through_34 rfl ?_
      refine z_getI (pc := 35) dX10_through_35 fk_X10_158 kd_plant (by omega) (by decide) (by decide) ?_
      refine zq_if_eq (pc := 38) (tgt := 49) dX10_through_38 rfl rfl (fun h38 => ?_) (fun h38 => ?_)
      · skip
        refine z_aload_n (pc := 49) dX10_through_49 rfl ?_
        refine z_iconst (pc := 50) (v := 1) dX10_through_50 (by decide) ?_
        refine z_iv1 (pc := 51) dX10_through_51 kv_X10_93 rfl (by decide) (by decide) rfl rfl ?_
        refine c_X10_found (by decide) (by decide) (fun r er => ?_)
        refine z_iret (pc := 54) dX10_through_54 rfl ?_
        have hor : (a.1.2 i).2.2.2.2 = true ∨ (a.1.2 j).2.2.2.2 = true := by first | exact Or.inl (away_of hp.2.2.2.2.2.2.2 h38) | exact Or.inr (away_of hq.2.2.2.2.2.2.2 h46)
        have e : sThrough a x1 x2 = _ := sThrough_2 hi hj hie hje hor
        exact h _ _ (by rw [e, er]; rfl) (by rw [e]; exact rC_stat hr) (eqM_uI eqM_rf rfl)
      · skip
        refine z_aload (pc := 41) dX10_through_41 rfl ?_
        refine z_getI (pc := 43) dX10_through_43 fk_X10_158 kd_plant (by omega) (by decide) (by decide) ?_
        refine zq_if_ne (pc := 46) (tgt := 55) dX10_through_46 rfl rfl (fun h46 => ?_) (fun h46 => ?_)
        · skip
          refine z_aload_n (pc := 55) dX10_through_55 rfl ?_
          refine z_getI (pc := 56) dX10_through_56 fk_X10_159 kd_plant (by omega) (by decide) (by decide) ?_
          refine z_aload (pc := 59) dX10_through_59 rfl ?_
          refine z_getI (pc := 61) dX10_through_61 fk_X10_159 kd_plant (by omega) (by decide) (by decide) ?_
          refine zq_icmp_ne (pc := 64) (tgt := 82) dX10_through_64 rfl rfl rfl (fun h64 => ?_) (fun h64 => ?_)
          · skip
            refine z_aload_n (pc := 82) dX10_through_82 rfl ?_
            refine z_getR (pc := 83) (t := 10) dX10_through_83 fk_X10_45 rfl (by decide) (by decide) (by decide) rfl ?_
            refine z_aload_n (pc := 86) dX10_through_86 rfl ?_
            refine z_getI (pc := 87) dX10_through_87 fk_X10_159 kd_plant (by omega) (by decide) (by decide) ?_
            refine z_aload_n (pc := 90) dX10_through_90 rfl ?_
            refine z_getI (pc := 91) dX10_through_91 fk_X10_162 kd_plant (by omega) (by decide) (by decide) ?_
            refine z_aload (pc := 94) dX10_through_94 rfl ?_
            refine z_getI (pc := 96) dX10_through_96 fk_X10_159 kd_plant (by omega) (by decide) (by decide) ?_
            refine z_aload (pc := 99) dX10_through_99 rfl ?_
            refine z_getI (pc := 101) dX10_through_101 fk_X10_162 kd_plant (by omega) (by decide) (by decide) ?_
            refine z_iv4 (pc := 104) dX10_through_104 kv_X10_232 rfl (by decide) (by decide) rfl rfl ?_
            unfold ptOk at hpk hqk
            refine c_X4_join rfl (by decide) (by omega) (by omega) (by omega) (by omega) (by omega) (fun τ hL hrow h2 => ?_)
            rw [ex1, ey1, ex2, ey2] at hL
            refine z_aload_n (pc := 107) dX10_through_107 rfl ?_
            refine z_iconst (pc := 108) (v := 1) dX10_through_108 (by decide) ?_
            refine z_iv1 (pc := 109) dX10_through_109 kv_X10_101 rfl (by decide) (by decide) rfl rfl ?_
            refine c_X10_done ?_
            refine z_iret (pc := 112) dX10_through_112 rfl ?_
            have e : sThrough a x1 x2 = _ := sThrough_4 hi hj hie hje (there_of hp.2.2.2.2.2.2.2 h38) (there_of hq.2.2.2.2.2.2.2 h46) (by omega)
            exact h _ _ (by rw [e]; rfl) (by
              rw [e]
              refine rC_ln hr ?_ (by rw [uI_nk (by omega), hrow 0 (by omega)]) (uI_eq _ _ _ _) (fun o h0 h10 => by rw [uI_row h0]; exact hrow o h10) (by rw [uI_2]; exact h2)
              unfold isLn at hL ⊢
              simp (disch := omega) only [uI_row]
              exact hL) (eqM_uI (eqM_row hrow h2) rfl)
          · skip
            refine z_aload_n (pc := 67) dX10_through_67 rfl ?_
            refine z_getI (pc := 68) dX10_through_68 fk_X10_162 kd_plant (by omega) (by decide) (by decide) ?_
            refine z_aload (pc := 71) dX10_through_71 rfl ?_
            refine z_getI (pc := 73) dX10_through_73 fk_X10_162 kd_plant (by omega) (by decide) (by decide) ?_
            refine zq_icmp_ne (pc := 76) (tgt := 82) dX10_through_76 rfl rfl rfl (fun h76 => ?_) (fun h76 => ?_)
            · skip
              refine z_aload_n (pc := 82) dX10_through_82 rfl ?_
              refine z_getR (pc := 83) (t := 10) dX10_through_83 fk_X10_45 rfl (by decide) (by decide) (by decide) rfl ?_
              refine z_aload_n (pc := 86) dX10_through_86 rfl ?_
              refine z_getI (pc := 87) dX10_through_87 fk_X10_159 kd_plant (by omega) (by decide) (by decide) ?_
              refine z_aload_n (pc := 90) dX10_through_90 rfl ?_
              refine z_getI (pc := 91) dX10_through_91 fk_X10_162 kd_plant (by omega) (by decide) (by decide) ?_
              refine z_aload (pc := 94) dX10_through_94 rfl ?_
              refine z_getI (pc := 96) dX10_through_96 fk_X10_159 kd_plant (by omega) (by decide) (by decide) ?_
              refine z_aload (pc := 99) dX10_through_99 rfl ?_
              refine z_getI (pc := 101) dX10_through_101 fk_X10_162 kd_plant (by omega) (by decide) (by decide) ?_
              refine z_iv4 (pc := 104) dX10_through_104 kv_X10_232 rfl (by decide) (by decide) rfl rfl ?_
              unfold ptOk at hpk hqk
              refine c_X4_join rfl (by decide) (by omega) (by omega) (by omega) (by omega) (by omega) (fun τ hL hrow h2 => ?_)
              rw [ex1, ey1, ex2, ey2] at hL
              refine z_aload_n (pc := 107) dX10_through_107 rfl ?_
              refine z_iconst (pc := 108) (v := 1) dX10_through_108 (by decide) ?_
              refine z_iv1 (pc := 109) dX10_through_109 kv_X10_101 rfl (by decide) (by decide) rfl rfl ?_
              refine c_X10_done ?_
              refine z_iret (pc := 112) dX10_through_112 rfl ?_
              have e : sThrough a x1 x2 = _ := sThrough_4 hi hj hie hje (there_of hp.2.2.2.2.2.2.2 h38) (there_of hq.2.2.2.2.2.2.2 h46) (by omega)
              exact h _ _ (by rw [e]; rfl) (by
                rw [e]
                refine rC_ln hr ?_ (by rw [uI_nk (by omega), hrow 0 (by omega)]) (uI_eq _ _ _ _) (fun o h0 h10 => by rw [uI_row h0]; exact hrow o h10) (by rw [uI_2]; exact h2)
                unfold isLn at hL ⊢
                simp (disch := omega) only [uI_row]
                exact hL) (eqM_uI (eqM_row hrow h2) rfl)
            · skip
              refine z_ldc (pc := 79) dX10_through_79 kc_X10_213 ?_
              refine z_iret (pc := 81) dX10_through_81 rfl ?_
              have e : sThrough a x1 x2 = _ := sThrough_3 hi hj hie hje (there_of hp.2.2.2.2.2.2.2 h38) (there_of hq.2.2.2.2.2.2.2 h46) (by omega)
              exact h _ _ (by rw [e]; rfl) (by rw [e]; exact hr) eqM_rf
        · skip
          refine z_aload_n (pc := 49) dX10_through_49 rfl ?_
          refine z_iconst (pc := 50) (v := 1) dX10_through_50 (by decide) ?_
          refine z_iv1 (pc := 51) dX10_through_51 kv_X10_93 rfl (by decide) (by decide) rfl rfl ?_
          refine c_X10_found (by decide) (by decide) (fun r er => ?_)
          refine z_iret (pc := 54) dX10_through_54 rfl ?_
          have hor : (a.1.2 i).2.2.2.2 = true ∨ (a.1.2 j).2.2.2.2 = true := by first | exact Or.inl (away_of hp.2.2.2.2.2.2.2 h38) | exact Or.inr (away_of hq.2.2.2.2.2.2.2 h46)
          have e : sThrough a x1 x2 = _ := sThrough_2 hi hj hie hje hor
          exact h _ _ (by rw [e, er]; rfl) (by rw [e]; exact rC_stat hr) (eqM_uI eqM_rf rfl)
    · skip
      refine z_if_ne (pc := 13) (tgt := 19) dX10_through_13 rfl (fun hc => absurd hc (by decide)) (fun _ => ?_)
      refine z_ldc (pc := 16) dX10_through_16 kc_X10_92 ?_
      refine z_iret (pc := 18) dX10_through_18 rfl ?_
      have e : sThrough a x1 x2 = _ := sThrough_1 (by omega)
      exact h _ _ (by rw [e]; rfl) (by rw [e]; exact hr) eqM_rf
  · skip
    refine z_if_eq (pc := 5) (tgt := 16) dX10_through_5 rfl (fun _ => ?_) (fun hc => absurd hc (by decide))
    refine z_ldc (pc := 16) dX10_through_16 kc_X10_92 ?_
    refine z_iret (pc := 18) dX10_through_18 rfl ?_
    have e : sThrough a x1 x2 = _ := sThrough_1 (by omega)
    exact h _ _ (by rw [e]; rfl) (by rw [e]; exact hr) eqM_rf

theorem c_X10_lineAt {l : Launch} {G : Gx} {d : Nat} {σ : Sg} {Q : Option Value → Sg → Prop} {a : Ab} {x1 : Int32} (hr : rC σ a) (h : ∀ r : Int32, r.toInt = sLineAt a x1 → Q (some (.int r)) σ) : Z l G M_X10_lineAt (d) 0 [some (.ref 0), some (.int x1)] [] σ Q := by
  have hL := hr.2.2.2.2.1
  refine z_sub (L' := [some (.ref 0), some (.int x1)]) ⟨rfl, rfl, trivial⟩ ?_
  refine z_iload_n (pc := 0) dX10_lineAt_0 rfl ?_
  rcases (show x1.toInt = 0 ∨ x1.toInt = 1 ∨ x1.toInt = 2 ∨ (x1.toInt < 0 ∨ 2 < x1.toInt) by omega) with ek | ek | ek | ek
  · refine zq_swIn (pc := 1) (c := 0) (tgt := 28) dX10_lineAt_1 ek (by decide) (by decide) rfl rfl ?_
    refine z_aload_n (pc := 28) dX10_lineAt_28 rfl ?_
    refine z_getR (pc := 29) (t := 10) dX10_lineAt_29 fk_X10_45 rfl (by decide) (by decide) (by decide) rfl ?_
    refine z_getI (pc := 32) dX10_lineAt_32 fk_X10_236 rfl (by decide) (by decide) (by decide) ?_
    refine z_iret (pc := 35) dX10_lineAt_35 rfl ?_
    exact h _ (by rw [hL.1]; exact (if_pos ek).symm)
  · refine zq_swIn (pc := 1) (c := 1) (tgt := 36) dX10_lineAt_1 ek (by decide) (by decide) rfl rfl ?_
    refine z_aload_n (pc := 36) dX10_lineAt_36 rfl ?_
    refine z_getR (pc := 37) (t := 10) dX10_lineAt_37 fk_X10_45 rfl (by decide) (by decide) (by decide) rfl ?_
    refine z_getI (pc := 40) dX10_lineAt_40 fk_X10_239 rfl (by decide) (by decide) (by decide) ?_
    refine z_iret (pc := 43) dX10_lineAt_43 rfl ?_
    exact h _ (by rw [hL.2.1]; exact ((if_neg (by omega)).trans (if_pos ek)).symm)
  · refine zq_swIn (pc := 1) (c := 2) (tgt := 44) dX10_lineAt_1 ek (by decide) (by decide) rfl rfl ?_
    refine z_aload_n (pc := 44) dX10_lineAt_44 rfl ?_
    refine z_getR (pc := 45) (t := 10) dX10_lineAt_45 fk_X10_45 rfl (by decide) (by decide) (by decide) rfl ?_
    refine z_getI (pc := 48) dX10_lineAt_48 fk_X10_242 rfl (by decide) (by decide) (by decide) ?_
    refine z_iret (pc := 51) dX10_lineAt_51 rfl ?_
    exact h _ (by rw [hL.2.2]; exact ((if_neg (by omega)).trans ((if_neg (by omega)).trans (if_pos ek))).symm)
  · refine zq_swOut (pc := 1) (tgt := 52) dX10_lineAt_1 ek rfl ?_
    refine z_ldc (pc := 52) dX10_lineAt_52 kc_X10_92 ?_
    refine z_iret (pc := 54) dX10_lineAt_54 rfl ?_
    exact h _ (((if_neg (by omega)).trans ((if_neg (by omega)).trans (if_neg (by omega)))).symm)
