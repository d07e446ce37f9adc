theorem c_X5_add {l : Launch} {G : Gx} {d : Nat} {σ : Sg} {Q : Option Value → Sg → Prop} {n i j p q c : Nat} {pt : Nat → Pt} {x1 x2 : Int32} (hS : okStand σ n pt) (hP : ∀ i, i < n → ptOk (pt i)) (hn : n ≤ 40) (hi : (prs n pt)[i]? = some p) (hj : (prs n pt)[j]? = some q) (hx : x1.toInt = (i : Int)) (hy : x2.toInt = (j : Int)) (ha : apt (pt p) (pt q) = true) (hc : (σ.1 18 8).toInt = (c : Int)) (hc2 : c < 780) (h : ∀ τ : Sg, (τ.1 18 8).toInt = (c : Int) + 1 → ((τ.1 19 c).toInt = (lnO pt (p, q)).1 ∧ (τ.1 20 c).toInt = (lnO pt (p, q)).2.1 ∧ (τ.1 21 c).toInt = (lnO pt (p, q)).2.2) → (∀ o k, 19 ≤ o → o ≤ 22 → k ≠ c → τ.1 o k = σ.1 o k) → (τ.1 18 9).toInt = (if (σ.1 18 9).toInt < (cON (prs n pt) pt (p, q) : Int) then (cON (prs n pt) pt (p, q) : Int) else (σ.1 18 9).toInt) → (τ.1 18 10).toInt = (if c = 0 then (cON (prs n pt) pt (p, q) : Int) else if (cON (prs n pt) pt (p, q) : Int) < (σ.1 18 10).toInt then (cON (prs n pt) pt (p, q) : Int) else (σ.1 18 10).toInt) → (∀ k, k < 8 → τ.1 18 k = σ.1 18 k) → eqX 18 23 σ τ → Q none τ) : Z l G M_X5_add (d + 3) 0 [some (.ref 18), some (.ref 11), some (.int x1), some (.int x2)] [] σ Q := by
  have li := st_lt hn hi
  have lj := st_lt hn hj
  refine z_sub (L' := [some (.ref 18), some (.ref 11), some (.int x1), some (.int x2), none]) ⟨rfl, rfl, rfl, rfl, trivial⟩ ?_
  refine z_aload_n (pc := 0) dX5_add_0 rfl ?_
  refine z_getI (pc := 1) dX5_add_1 fk_X5_31 rfl (by decide) (by decide) (by decide) ?_
  refine z_sipush (pc := 4) (v := 780) dX5_add_4 (by decide) ?_
  refine zq_icmp_lt (pc := 7) (cy := 780) (tgt := 11) dX5_add_7 rfl rfl (by decide) (fun h7 => ?_) (fun h7 => ?_)
  · skip
    refine z_aload_n (pc := 11) dX5_add_11 rfl ?_
    refine z_getR (pc := 12) (t := 23) dX5_add_12 fk_X5_27 rfl (by decide) (by decide) (by decide) rfl ?_
    refine z_aload_n (pc := 15) dX5_add_15 rfl ?_
    refine z_getR (pc := 16) (t := 13) dX5_add_16 fk_X5_67 rfl (by decide) (by decide) (by decide) rfl ?_
    refine z_iload_n (pc := 19) dX5_add_19 rfl ?_
    refine z_ialdN (pc := 20) i dX5_add_20 rfl (by decide) hx (by show _ < 40; omega) ?_
    refine z_aload_n (pc := 21) dX5_add_21 rfl ?_
    refine z_getR (pc := 22) (t := 14) dX5_add_22 fk_X5_70 rfl (by decide) (by decide) (by decide) rfl ?_
    refine z_iload_n (pc := 25) dX5_add_25 rfl ?_
    refine z_ialdN (pc := 26) i dX5_add_26 rfl (by decide) hx (by show _ < 40; omega) ?_
    refine z_aload_n (pc := 27) dX5_add_27 rfl ?_
    refine z_getR (pc := 28) (t := 13) dX5_add_28 fk_X5_67 rfl (by decide) (by decide) (by decide) rfl ?_
    refine z_iload_n (pc := 31) dX5_add_31 rfl ?_
    refine z_ialdN (pc := 32) j dX5_add_32 rfl (by decide) hy (by show _ < 40; omega) ?_
    refine z_aload_n (pc := 33) dX5_add_33 rfl ?_
    refine z_getR (pc := 34) (t := 14) dX5_add_34 fk_X5_70 rfl (by decide) (by decide) (by decide) rfl ?_
    refine z_iload_n (pc := 37) dX5_add_37 rfl ?_
    refine z_ialdN (pc := 38) j dX5_add_38 rfl (by decide) hy (by show _ < 40; omega) ?_
    refine z_iv4 (pc := 39) dX5_add_39 kv_X5_73 rfl (by decide) (by decide) rfl rfl ?_
    have ei := st_xy hS hi
    have ej := st_xy hS hj
    have oi := st_ok hP hi
    have oj := st_ok hP hj
    have hap := apt_iff.mp ha
    refine c_X4_join rfl (by decide) (by omega) (by omega) (by omega) (by omega) (by omega) (fun τ hL hrow h2 => ?_)
    rw [ei.1, ei.2, ej.1, ej.2] at hL
    change isLn τ 23 (lnO pt (p, q)) at hL
    have r18 := hrow 18 (by omega)
    refine z_aload_n (pc := 42) dX5_add_42 rfl ?_
    refine z_getR (pc := 43) (t := 19) dX5_add_43 fk_X5_9 rfl (by decide) (by decide) (by decide) rfl ?_
    refine z_aload_n (pc := 46) dX5_add_46 rfl ?_
    refine z_getI (pc := 47) dX5_add_47 fk_X5_31 rfl (by decide) (by decide) (by decide) ?_
    refine z_aload_n (pc := 50) dX5_add_50 rfl ?_
    refine z_getR (pc := 51) (t := 23) dX5_add_51 fk_X5_27 rfl (by decide) (by decide) (by decide) rfl ?_
    refine z_getI (pc := 54) dX5_add_54 fk_X5_77 rfl (by decide) (by decide) (by decide) ?_
    refine z_iastN (pc := 57) c dX5_add_57 rfl (by decide) (by (try simp (disch := omega) only [uI_row, uI_nk, uI_no, uI_eq]); first | (rw [r18]; exact hc) | (simp (disch := omega) only [uI_row]; rw [r18]; exact hc)) (by show _ < 780; omega) ?_
    refine z_aload_n (pc := 58) dX5_add_58 rfl ?_
    refine z_getR (pc := 59) (t := 20) dX5_add_59 fk_X5_15 rfl (by decide) (by decide) (by decide) rfl ?_
    refine z_aload_n (pc := 62) dX5_add_62 rfl ?_
    refine z_getI (pc := 63) dX5_add_63 fk_X5_31 rfl (by decide) (by decide) (by decide) ?_
    refine z_aload_n (pc := 66) dX5_add_66 rfl ?_
    refine z_getR (pc := 67) (t := 23) dX5_add_67 fk_X5_27 rfl (by decide) (by decide) (by decide) rfl ?_
    refine z_getI (pc := 70) dX5_add_70 fk_X5_79 rfl (by decide) (by decide) (by decide) ?_
    (try simp (disch := omega) only [uI_row, uI_nk, uI_no, uI_eq])
    refine z_iastN (pc := 73) c dX5_add_73 rfl (by decide) (by (try simp (disch := omega) only [uI_row, uI_nk, uI_no, uI_eq]); first | (rw [r18]; exact hc) | (simp (disch := omega) only [uI_row]; rw [r18]; exact hc)) (by show _ < 780; omega) ?_
    refine z_aload_n (pc := 74) dX5_add_74 rfl ?_
    refine z_getR (pc := 75) (t := 21) dX5_add_75 fk_X5_18 rfl (by decide) (by decide) (by decide) rfl ?_
    refine z_aload_n (pc := 78) dX5_add_78 rfl ?_
    refine z_getI (pc := 79) dX5_add_79 fk_X5_31 rfl (by decide) (by decide) (by decide) ?_
    refine z_aload_n (pc := 82) dX5_add_82 rfl ?_
    refine z_getR (pc := 83) (t := 23) dX5_add_83 fk_X5_27 rfl (by decide) (by decide) (by decide) rfl ?_
    refine z_getI (pc := 86) dX5_add_86 fk_X5_81 rfl (by decide) (by decide) (by decide) ?_
    (try simp (disch := omega) only [uI_row, uI_nk, uI_no, uI_eq])
    refine z_iastN (pc := 89) c dX5_add_89 rfl (by decide) (by (try simp (disch := omega) only [uI_row, uI_nk, uI_no, uI_eq]); first | (rw [r18]; exact hc) | (simp (disch := omega) only [uI_row]; rw [r18]; exact hc)) (by show _ < 780; omega) ?_
    refine z_aload_n (pc := 90) dX5_add_90 rfl ?_
    refine z_dup (pc := 91) dX5_add_91 rfl ?_
    refine z_getI (pc := 92) dX5_add_92 fk_X5_31 rfl (by decide) (by decide) (by decide) ?_
    (try simp (disch := omega) only [uI_row, uI_nk, uI_no, uI_eq])
    rw [r18]
    refine z_iconst (pc := 95) (v := 1) dX5_add_95 (by decide) ?_
    refine z_iaddT (pc := 96) (cy := 1) dX5_add_96 rfl (by decide) (by omega) (by omega) (fun v96 e96 => ?_)
    refine z_putI (pc := 97) dX5_add_97 fk_X5_31 rfl (by decide) (by decide) (by decide) ?_
    refine z_aload_n (pc := 100) dX5_add_100 rfl ?_
    refine z_aload_n (pc := 101) dX5_add_101 rfl ?_
    refine z_iload_n (pc := 102) dX5_add_102 rfl ?_
    refine z_iload_n (pc := 103) dX5_add_103 rfl ?_
    refine z_iv3 (pc := 104) dX5_add_104 kv_X5_83 rfl (by decide) (by decide) rfl rfl ?_
    have hS' : okStand (uI (uI (uI (uI τ 19 c (τ.1 23 0)) 20 c (τ.1 23 1)) 21 c (τ.1 23 2)) 18 8 v96) n pt := okStand_cong (c := True) (σ := σ) (fun o h1 h3 => ⟨by simp (disch := omega) only [uI_row]; exact hrow o (by omega), by rw [uI_2, uI_2, uI_2, uI_2, h2]⟩) (fun _ => hS) trivial
    refine c_X5_plantsOn hS' hP hn hi hj hx hy (fun on eon => ?_)
    refine z_istore (pc := 107) dX5_add_107 rfl rfl (by dsimp only [setI, setL, List.set]) ?_
    refine z_aload_n (pc := 109) dX5_add_109 rfl ?_
    refine z_aload_n (pc := 110) dX5_add_110 rfl ?_
    refine z_getI (pc := 111) dX5_add_111 fk_X5_35 rfl (by decide) (by decide) (by decide) ?_
    refine z_iload (pc := 114) dX5_add_114 rfl ?_
    (try simp (disch := omega) only [uI_row, uI_nk, uI_no, uI_eq])
    refine z_mmaxi (pc := 116) dX5_add_116 kj_X5_87 rfl ?_
    refine z_putI (pc := 119) dX5_add_119 fk_X5_35 rfl (by decide) (by decide) (by decide) ?_
    refine z_aload_n (pc := 122) dX5_add_122 rfl ?_
    refine z_aload_n (pc := 123) dX5_add_123 rfl ?_
    refine z_getI (pc := 124) dX5_add_124 fk_X5_31 rfl (by decide) (by decide) (by decide) ?_
    refine z_iconst (pc := 127) (v := 1) dX5_add_127 (by decide) ?_
    (try simp (disch := omega) only [uI_row, uI_nk, uI_no, uI_eq])
    refine zq_icmp_ne (pc := 128) (cy := 1) (tgt := 136) dX5_add_128 rfl rfl (by decide) (fun h128 => ?_) (fun h128 => ?_)
    · skip
      refine z_aload_n (pc := 136) dX5_add_136 rfl ?_
      refine z_getI (pc := 137) dX5_add_137 fk_X5_38 rfl (by decide) (by decide) (by decide) ?_
      refine z_iload (pc := 140) dX5_add_140 rfl ?_
      (try simp (disch := omega) only [uI_row, uI_nk, uI_no, uI_eq])
      refine z_mmini (pc := 142) dX5_add_142 kj_X5_93 rfl ?_
      refine z_putI (pc := 145) dX5_add_145 fk_X5_38 rfl (by decide) (by decide) (by decide) ?_
      refine z_vret (pc := 148) dX5_add_148 rfl ?_
      refine h _ ?_ ⟨?_, ?_, ?_⟩ (fun o k h1 h3 hk => ?_) ?_ ?_ (fun k hk => ?_) (fun o ho => ⟨?_, ?_⟩)
      · (try simp (disch := omega) only [uI_row, uI_nk, uI_no, uI_eq]); omega
      · (try simp (disch := omega) only [uI_row, uI_nk, uI_no, uI_eq]); exact hL.1
      · (try simp (disch := omega) only [uI_row, uI_nk, uI_no, uI_eq]); exact hL.2.1
      · (try simp (disch := omega) only [uI_row, uI_nk, uI_no, uI_eq]); exact hL.2.2
      · (try simp (disch := omega) only [uI_row, uI_nk, uI_no, uI_eq]); rw [hrow o (by omega)]
      · (try simp (disch := omega) only [uI_row, uI_nk, uI_no, uI_eq])
        rw [r18]
        split
        · rename_i hlt
          have hlt := Int32.lt_iff_toInt_lt.mp hlt
          rw [if_pos (by omega)]; exact eon
        · rename_i hlt
          have hlt := mt Int32.lt_iff_toInt_lt.mpr hlt
          rw [if_neg (by omega)]
      · (try simp (disch := omega) only [uI_row, uI_nk, uI_no, uI_eq])
        first
        | (rw [if_pos (show c = 0 by omega)]; exact eon)
        | (rw [if_neg (show ¬ c = 0 by omega)]
           (try simp (disch := omega) only [uI_row, uI_nk, uI_no, uI_eq])
           rw [r18]
           split
           · rename_i hlt
             have hlt := Int32.lt_iff_toInt_lt.mp hlt
             rw [if_pos (by omega)]; exact eon
           · rename_i hlt
             have hlt := mt Int32.lt_iff_toInt_lt.mpr hlt
             rw [if_neg (by omega)])
      · (try simp (disch := omega) only [uI_row, uI_nk, uI_no, uI_eq]); rw [r18]
      · (try simp (disch := omega) only [uI_row, uI_nk, uI_no, uI_eq]); exact hrow o (by omega)
      · show τ.2 o = σ.2 o
        rw [h2]
    · skip
      refine z_iload (pc := 131) dX5_add_131 rfl ?_
      refine z_goto (pc := 133) (tgt := 145) dX5_add_133 rfl ?_
      refine z_putI (pc := 145) dX5_add_145 fk_X5_38 rfl (by decide) (by decide) (by decide) ?_
      refine z_vret (pc := 148) dX5_add_148 rfl ?_
      refine h _ ?_ ⟨?_, ?_, ?_⟩ (fun o k h1 h3 hk => ?_) ?_ ?_ (fun k hk => ?_) (fun o ho => ⟨?_, ?_⟩)
      · (try simp (disch := omega) only [uI_row, uI_nk, uI_no, uI_eq]); omega
      · (try simp (disch := omega) only [uI_row, uI_nk, uI_no, uI_eq]); exact hL.1
      · (try simp (disch := omega) only [uI_row, uI_nk, uI_no, uI_eq]); exact hL.2.1
      · (try simp (disch := omega) only [uI_row, uI_nk, uI_no, uI_eq]); exact hL.2.2
      · (try simp (disch := omega) only [uI_row, uI_nk, uI_no, uI_eq]); rw [hrow o (by omega)]
      · (try simp (disch := omega) only [uI_row, uI_nk, uI_no, uI_eq])
        rw [r18]
        split
        · rename_i hlt
          have hlt := Int32.lt_iff_toInt_lt.mp hlt
          rw [if_pos (by omega)]; exact eon
        · rename_i hlt
          have hlt := mt Int32.lt_iff_toInt_lt.mpr hlt
          rw [if_neg (by omega)]
      · (try simp (disch := omega) only [uI_row, uI_nk, uI_no, uI_eq])
        first
        | (rw [if_pos (show c = 0 by omega)]; exact eon)
        | (rw [if_neg (show ¬ c = 0 by omega)]
           (try simp (disch := omega) only [uI_row, uI_nk, uI_no, uI_eq])
           rw [r18]
           split
           · rename_i hlt
             have hlt := Int32.lt_iff_toInt_lt.mp hlt
             rw [if_pos (by omega)]; exact eon
           · rename_i hlt
             have hlt := mt Int32.lt_iff_toInt_lt.mpr hlt
             rw [if_neg (by omega)])
      · (try simp (disch := omega) only [uI_row, uI_nk, uI_no, uI_eq]); rw [r18]
      · (try simp (disch := omega) only [uI_row, uI_nk, uI_no, uI_eq]); exact hrow o (by omega)
      · show τ.2 o = σ.2 o
        rw [h2]
  · skip
    exfalso; omega

/-- the lines hold those of a list of pairs -/
def lnsOf (σ : Sg) (P : List Nat) (pt : Nat → Pt) (L : List (Nat × Nat)) : Prop := (σ.1 18 8).toInt = (L.length : Int) ∧ (∀ (k : Nat) (z : Nat × Nat), L[k]? = some z → (σ.1 19 k).toInt = (lnO pt z).1 ∧ (σ.1 20 k).toInt = (lnO pt z).2.1 ∧ (σ.1 21 k).toInt = (lnO pt z).2.2) ∧ MaxL P pt L (σ.1 18 9).toInt ∧ MinL P pt L (σ.1 18 10).toInt
theorem lnsOf_add {σ τ : Sg} {P : List Nat} {pt : Nat → Pt} {L : List (Nat × Nat)} {z : Nat × Nat} (h : lnsOf σ P pt L) (h1 : (τ.1 18 8).toInt = (L.length : Int) + 1) (h2 : (τ.1 19 L.length).toInt = (lnO pt z).1 ∧ (τ.1 20 L.length).toInt = (lnO pt z).2.1 ∧ (τ.1 21 L.length).toInt = (lnO pt z).2.2) (h3 : ∀ o k, 19 ≤ o → o ≤ 22 → k ≠ L.length → τ.1 o k = σ.1 o k) (h4 : (τ.1 18 9).toInt = (if (σ.1 18 9).toInt < (cON P pt z : Int) then (cON P pt z : Int) else (σ.1 18 9).toInt)) (h5 : (τ.1 18 10).toInt = (if L.length = 0 then (cON P pt z : Int) else if (cON P pt z : Int) < (σ.1 18 10).toInt then (cON P pt z : Int) else (σ.1 18 10).toInt)) : lnsOf τ P pt (L ++ [z]) := by
  obtain ⟨g1, g2, g3, g4⟩ := h
  refine ⟨by rw [h1, List.length_append]; simp, fun k y hk => ?_, MaxL_add g3 h4, MinL_add g4 (by rw [h5]; simp only [List.length_eq_zero_iff])⟩
  rcases Nat.lt_or_ge k L.length with hlt | hge
  · rw [List.getElem?_append_left hlt] at hk
    rw [h3 19 k (by omega) (by omega) (by omega), h3 20 k (by omega) (by omega) (by omega), h3 21 k (by omega) (by omega) (by omega)]
    exact g2 k y hk
  · have hl := (List.getElem?_eq_some_iff.mp hk).1
    rw [List.length_append] at hl
    simp at hl
    have e : k = L.length := by omega
    subst e
    rw [List.getElem?_append_right (Nat.le_refl _)] at hk
    simp at hk
    subst hk
    exact h2
theorem lnsOf_cong {σ τ : Sg} {P : List Nat} {pt : Nat → Pt} {L : List (Nat × Nat)} (h8 : τ.1 18 8 = σ.1 18 8) (h9 : τ.1 18 9 = σ.1 18 9) (h10 : τ.1 18 10 = σ.1 18 10) (h : ∀ o, 19 ≤ o → o ≤ 21 → τ.1 o = σ.1 o) (hl : lnsOf σ P pt L) : lnsOf τ P pt L := by
  unfold lnsOf
  rw [h8, h9, h10, h 19 (by omega) (by omega), h 20 (by omega) (by omega), h 21 (by omega) (by omega)]
  exact hl
theorem rowA_succ {P : List Nat} {ok : Nat × Nat → Bool} {i j p q : Nat} (hi : P[i]? = some p) (hj : P[j]? = some q) (hij : i < j) : rowA P ok i (j + 1) = rowA P ok i j ++ (if ok (p, q) = true then [(p, q)] else []) := by
  show rowA P ok i j ++ _ = _
  rw [getD_some hi, getD_some hj]
  congr 1
  by_cases h : ok (p, q) = true
  · rw [if_pos ⟨hij, h⟩, if_pos h]
  · rw [if_neg (fun z => h z.2), if_neg h]

theorem c_gatherI {l : Launch} {G : Gx} {d : Nat} {σ : Sg} {Q : Option Value → Sg → Prop} {n i p : Nat} {pt : Nat → Pt} {x1 : Int32} (hS : okStand σ n pt) (hP : ∀ i, i < n → ptOk (pt i)) (hn : n ≤ 40) (hi : (prs n pt)[i]? = some p) (hx : x1.toInt = (i : Int)) (hnext : ∀ (τ : Sg) (x2 : Int32), lnsOf τ (prs n pt) pt (allA (prs n pt) (okp (prs n pt) pt) (prs n pt).length (i + 1)) → τ.1 18 5 = 0 → eqX 18 23 σ τ → Z l G M_X5_gather (d + 4) 74 [some (.ref 18), some (.ref 11), some (.int x1), some (.int x2)] [] τ Q) : ∀ (f j : Nat) (x2 : Int32) (τ : Sg), x2.toInt = (j : Int) → i < j → j ≤ (prs n pt).length → (prs n pt).length - j < f → lnsOf τ (prs n pt) pt (allA (prs n pt) (okp (prs n pt) pt) (prs n pt).length i ++ rowA (prs n pt) (okp (prs n pt) pt) i j) → τ.1 18 5 = 0 → eqX 18 23 σ τ → Z l G M_X5_gather (d + 4) 34 [some (.ref 18), some (.ref 11), some (.int x1), some (.int x2)] [] τ Q := by
  intro f
  induction f with
  | zero => intro j x2 τ hy hij hj hf hl h5 hE; omega
  | succ f ih =>
  intro j x2 τ hy hij hj hf hl h5 hE
  have hpl := prs_len n pt
  have hSt : okStand τ n pt := okStand_cong (c := True) (fun o h1 h3 => hE o (by omega)) (fun _ => hS) trivial
  have hm := hSt.1
  refine z_iload_n (pc := 34) dX5_gather_34 rfl ?_
  refine z_aload_n (pc := 35) dX5_gather_35 rfl ?_
  refine z_getI (pc := 36) dX5_gather_36 fk_X5_45 rfl (by decide) (by decide) (by decide) ?_
  refine zq_icmp_ge (pc := 39) (tgt := 74) dX5_gather_39 rfl rfl rfl (fun h39 => ?_) (fun h39 => ?_)
  · skip
    have ej : j = (prs n pt).length := by omega
    subst ej
    exact hnext τ x2 hl h5 hE
  · skip
    obtain ⟨q, hq⟩ := prs_get (pt := pt) (n := n) (j := j) (by omega)
    refine z_aload_n (pc := 42) dX5_gather_42 rfl ?_
    refine z_iload_n (pc := 43) dX5_gather_43 rfl ?_
    refine z_iload_n (pc := 44) dX5_gather_44 rfl ?_
    refine z_iv2 (pc := 45) dX5_gather_45 kv_X5_48 rfl (by decide) (by decide) rfl rfl ?_
    refine c_X7_isTogether hSt hn hi hq hx hy (fun qt => ?_) (fun qt => ?_)
    · skip
      refine z_if_ne (pc := 48) (tgt := 68) dX5_gather_48 rfl (fun _ => ?_) (fun hc => absurd hc (by decide))
      refine z_iincT (pc := 68) dX5_gather_68 rfl rfl (by decide) (by decide) (by omega) (by omega) rfl rfl (fun v => by dsimp only [setI, setL, List.set]) (fun v68 e68 => ?_)
      refine z_goto (pc := 71) (tgt := 34) dX5_gather_71 rfl ?_
      first
      | exact ih (j + 1) v68 υ (by omega) (by omega) (by omega) (by omega) hl' ((u6 5 (by omega)).trans h5) (eqX_tr hE u7)
      | (have hok : ¬ (okp (prs n pt) pt) (p, q) = true := by
           show ¬ (apt (pt p) (pt q) && fstP (prs n pt) pt p q) = true
           first | (rw [qt, Bool.false_and]; decide) | (rw [qf, Bool.and_false]; decide)
         have hrs := rowA_succ (ok := (okp (prs n pt) pt)) hi hq hij
         rw [if_neg hok, List.append_nil] at hrs
         rw [← hrs] at hl
         exact ih (j + 1) v68 τ (by omega) (by omega) (by omega) (by omega) hl h5 hE)
    · skip
      refine z_if_ne (pc := 48) (tgt := 68) dX5_gather_48 rfl (fun hc => absurd hc (by decide)) (fun _ => ?_)
      refine z_aload_n (pc := 51) dX5_gather_51 rfl ?_
      refine z_aload_n (pc := 52) dX5_gather_52 rfl ?_
      refine z_iload_n (pc := 53) dX5_gather_53 rfl ?_
      refine z_iload_n (pc := 54) dX5_gather_54 rfl ?_
      refine z_iv3 (pc := 55) dX5_gather_55 kv_X5_52 rfl (by decide) (by decide) rfl rfl ?_
      refine c_X5_isFirstPair hSt hP hn hi hq hx hy hij (fun qf => ?_) (fun qf => ?_)
      · skip
        refine z_if_eq (pc := 58) (tgt := 68) dX5_gather_58 rfl (fun hc => absurd hc (by decide)) (fun _ => ?_)
        refine z_aload_n (pc := 61) dX5_gather_61 rfl ?_
        refine z_aload_n (pc := 62) dX5_gather_62 rfl ?_
        refine z_iload_n (pc := 63) dX5_gather_63 rfl ?_
        refine z_iload_n (pc := 64) dX5_gather_64 rfl ?_
        refine z_iv3 (pc := 65) dX5_gather_65 kv_X5_56 rfl (by decide) (by decide) rfl rfl ?_
        have hrm := pair_room (P := prs n pt) (ok := (okp (prs n pt) pt)) (m := (prs n pt).length) (i := i) (j := j) (by omega) hij (by omega)
        refine c_X5_add hSt hP hn hi hq hx hy qt hl.1 hrm (fun υ u1 u2 u3 u4 u5 u6 u7 => ?_)
        have hl' := lnsOf_add (z := (p, q)) hl u1 u2 u3 u4 u5
        have hok : (okp (prs n pt) pt) (p, q) = true := by show (apt (pt p) (pt q) && fstP (prs n pt) pt p q) = true; rw [qt, qf]; rfl
        have hrs := rowA_succ (ok := (okp (prs n pt) pt)) hi hq hij
        rw [if_pos hok] at hrs
        rw [List.append_assoc, ← hrs] at hl'
        refine z_iincT (pc := 68) dX5_gather_68 rfl rfl (by decide) (by decide) (by omega) (by omega) rfl rfl (fun v => by dsimp only [setI, setL, List.set]) (fun v68 e68 => ?_)
        refine z_goto (pc := 71) (tgt := 34) dX5_gather_71 rfl ?_
        first
        | exact ih (j + 1) v68 υ (by omega) (by omega) (by omega) (by omega) hl' ((u6 5 (by omega)).trans h5) (eqX_tr hE u7)
        | (have hok : ¬ (okp (prs n pt) pt) (p, q) = true := by
             show ¬ (apt (pt p) (pt q) && fstP (prs n pt) pt p q) = true
             first | (rw [qt, Bool.false_and]; decide) | (rw [qf, Bool.and_false]; decide)
           have hrs := rowA_succ (ok := (okp (prs n pt) pt)) hi hq hij
           rw [if_neg hok, List.append_nil] at hrs
           rw [← hrs] at hl
           exact ih (j + 1) v68 τ (by omega) (by omega) (by omega) (by omega) hl h5 hE)
      · skip
        refine z_if_eq (pc := 58) (tgt := 68) dX5_gather_58 rfl (fun _ => ?_) (fun hc => absurd hc (by decide))
        refine z_iincT (pc := 68) dX5_gather_68 rfl rfl (by decide) (by decide) (by omega) (by omega) rfl rfl (fun v => by dsimp only [setI, setL, List.set]) (fun v68 e68 => ?_)
        refine z_goto (pc := 71) (tgt := 34) dX5_gather_71 rfl ?_
        first
        | exact ih (j + 1) v68 υ (by omega) (by omega) (by omega) (by omega) hl' ((u6 5 (by omega)).trans h5) (eqX_tr hE u7)
        | (have hok : ¬ (okp (prs n pt) pt) (p, q) = true := by
             show ¬ (apt (pt p) (pt q) && fstP (prs n pt) pt p q) = true
             first | (rw [qt, Bool.false_and]; decide) | (rw [qf, Bool.and_false]; decide)
           have hrs := rowA_succ (ok := (okp (prs n pt) pt)) hi hq hij
           rw [if_neg hok, List.append_nil] at hrs
           rw [← hrs] at hl
           exact ih (j + 1) v68 τ (by omega) (by omega) (by omega) (by omega) hl h5 hE)

theorem c_gatherO {l : Launch} {G : Gx} {d : Nat} {σ : Sg} {Q : Option Value → Sg → Prop} {n : Nat} {pt : Nat → Pt} (hS : okStand σ n pt) (hP : ∀ i, i < n → ptOk (pt i)) (hn : n ≤ 40) (h : ∀ τ, lnsOf τ (prs n pt) pt (LPR (prs n pt) pt) → τ.1 18 5 = 0 → τ.1 18 7 = 1 → eqX 18 23 σ τ → Q none τ) : ∀ (f i : Nat) (x1 : Int32) (y : Option Value) (τ : Sg), x1.toInt = (i : Int) → i ≤ (prs n pt).length → (prs n pt).length - i < f → lnsOf τ (prs n pt) pt (allA (prs n pt) (okp (prs n pt) pt) (prs n pt).length i) → τ.1 18 5 = 0 → eqX 18 23 σ τ → Z l G M_X5_gather (d + 4) 22 [some (.ref 18), some (.ref 11), some (.int x1), y] [] τ Q := by
  intro f
  induction f with
  | zero => intro i x1 y τ hx hi hf hl h5 hE; omega
  | succ f ih =>
  intro i x1 y τ hx hi hf hl h5 hE
  refine z_sub (L' := [some _, some _, some _, none]) ⟨rfl, rfl, rfl, trivial⟩ ?_
  have hpl := prs_len n pt
  have hSt : okStand τ n pt := okStand_cong (c := True) (fun o h1 h3 => hE o (by omega)) (fun _ => hS) trivial
  have hm := hSt.1
  refine z_iload_n (pc := 22) dX5_gather_22 rfl ?_
  refine z_aload_n (pc := 23) dX5_gather_23 rfl ?_
  refine z_getI (pc := 24) dX5_gather_24 fk_X5_45 rfl (by decide) (by decide) (by decide) ?_
  refine zq_icmp_ge (pc := 27) (tgt := 80) dX5_gather_27 rfl rfl rfl (fun h27 => ?_) (fun h27 => ?_)
  · skip
    refine z_aload_n (pc := 80) dX5_gather_80 rfl ?_
    refine z_iconst (pc := 81) (v := 1) dX5_gather_81 (by decide) ?_
    refine z_putB (pc := 82) dX5_gather_82 fk_X5_60 rfl (by decide) (by decide) (by decide) (by decide) ?_
    refine z_vret (pc := 85) dX5_gather_85 rfl ?_
    have ei : i = (prs n pt).length := by omega
    subst ei
    rw [allA_all] at hl
    exact h _ (lnsOf_cong (by simp (disch := omega) only [uI_row, uI_2, uI_nk, uI_no, uI_eq]) (by simp (disch := omega) only [uI_row, uI_2, uI_nk, uI_no, uI_eq]) (by simp (disch := omega) only [uI_row, uI_2, uI_nk, uI_no, uI_eq]) (fun o h1 h3 => by simp (disch := omega) only [uI_row, uI_2, uI_nk, uI_no, uI_eq]) hl) (by rw [uI_nk (by omega)]; exact h5) (uI_eq _ _ _ _) (eqX_uI hE (by omega) (by omega))
  · skip
    refine z_iload_n (pc := 30) dX5_gather_30 rfl ?_
    refine z_iconst (pc := 31) (v := 1) dX5_gather_31 (by decide) ?_
    refine z_iaddT (pc := 32) (cy := 1) dX5_gather_32 rfl (by decide) (by omega) (by omega) (fun v32 e32 => ?_)
    refine z_istore_n (pc := 33) dX5_gather_33 rfl rfl (by dsimp only [setI, setL, List.set]) ?_
    obtain ⟨p, hp⟩ := prs_get (pt := pt) (n := n) (j := i) (by omega)
    refine c_gatherI (σ := σ) hS hP hn hp hx ?_ ((prs n pt).length + 1) (i + 1) v32 τ (by omega) (by omega) (by omega) (by omega) (by rw [rowA_no (i + 1) (Nat.le_refl _), List.append_nil]; exact hl) h5 hE
    intro υ x2 ul u5 uE
    refine z_iincT (pc := 74) dX5_gather_74 rfl rfl (by decide) (by decide) (by omega) (by omega) rfl rfl (fun v => by dsimp only [setI, setL, List.set]) (fun v74 e74 => ?_)
    refine z_goto (pc := 77) (tgt := 22) dX5_gather_77 rfl ?_
    exact ih (i + 1) v74 _ υ (by omega) (by omega) (by omega) ul u5 uE

theorem c_lgather {l : Launch} {G : Gx} {d : Nat} {σ : Sg} {Q : Option Value → Sg → Prop} {n : Nat} {pt : Nat → Pt} (hS : okStand σ n pt) (hP : ∀ i, i < n → ptOk (pt i)) (hn : n ≤ 40) (h : ∀ τ, lnsOf τ (prs n pt) pt (LPR (prs n pt) pt) → τ.1 18 5 = 0 → τ.1 18 7 = 1 → eqX 18 23 σ τ → Q none τ)  : Z l G M_X5_gather (d + 4) 0 [some (.ref 18), some (.ref 11)] [] σ Q := by
  refine z_sub (L' := [some (.ref 18), some (.ref 11), none, none]) ⟨rfl, rfl, trivial⟩ ?_
  refine z_aload_n (pc := 0) dX5_gather_0 rfl ?_
  refine z_iconst (pc := 1) (v := 0) dX5_gather_1 (by decide) ?_
  refine z_putI (pc := 2) dX5_gather_2 fk_X5_31 rfl (by decide) (by decide) (by decide) ?_
  refine z_aload_n (pc := 5) dX5_gather_5 rfl ?_
  refine z_iconst (pc := 6) (v := 0) dX5_gather_6 (by decide) ?_
  refine z_putI (pc := 7) dX5_gather_7 fk_X5_35 rfl (by decide) (by decide) (by decide) ?_
  refine z_aload_n (pc := 10) dX5_gather_10 rfl ?_
  refine z_iconst (pc := 11) (v := 0) dX5_gather_11 (by decide) ?_
  refine z_putI (pc := 12) dX5_gather_12 fk_X5_38 rfl (by decide) (by decide) (by decide) ?_
  refine z_aload_n (pc := 15) dX5_gather_15 rfl ?_
  refine z_iconst (pc := 16) (v := 0) dX5_gather_16 (by decide) ?_
  refine z_putB (pc := 17) dX5_gather_17 fk_X5_41 rfl (by decide) (by decide) (by decide) (by decide) ?_
  refine z_iconst (pc := 20) (v := 0) dX5_gather_20 (by decide) ?_
  refine z_istore_n (pc := 21) dX5_gather_21 rfl rfl (by dsimp only [setI, setL, List.set]) ?_
  exact c_gatherO hS hP hn h ((prs n pt).length + 1) 0 0 _ _ (by decide) (by omega) (by omega) ⟨by simp (disch := omega) only [uI_row, uI_2, uI_nk, uI_no, uI_eq]; rfl, fun k z hk => by simp [allA] at hk, Or.inl ⟨rfl, by simp (disch := omega) only [uI_row, uI_2, uI_nk, uI_no, uI_eq]; rfl⟩, Or.inl ⟨rfl, by simp (disch := omega) only [uI_row, uI_2, uI_nk, uI_no, uI_eq]; rfl⟩⟩ (uI_eq _ _ _ _) (eqX_uI (eqX_uI (eqX_uI (eqX_uI eqX_rf (by omega) (by omega)) (by omega) (by omega)) (by omega) (by omega)) (by omega) (by omega))
