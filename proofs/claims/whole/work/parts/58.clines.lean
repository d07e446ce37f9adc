theorem st_lt {n i p : Nat} {pt : Nat → Pt} (hn : n ≤ 40) (hi : (prs n pt)[i]? = some p) : i < 40 := by
  have := (List.getElem?_eq_some_iff.mp hi).1
  have := prs_len n pt
  omega
theorem st_xy {σ : Sg} {n i p : Nat} {pt : Nat → Pt} (hS : okStand σ n pt) (hi : (prs n pt)[i]? = some p) : (σ.1 13 i).toInt = (pt p).1.toInt ∧ (σ.1 14 i).toInt = (pt p).2.1.toInt := by
  have := hS.2 i p hi
  rw [this.2.1, this.2.2.1]
  exact ⟨rfl, rfl⟩
theorem st_ok {n i p : Nat} {pt : Nat → Pt} (hP : ∀ i, i < n → ptOk (pt i)) (hi : (prs n pt)[i]? = some p) : -300 ≤ (pt p).1.toInt ∧ (pt p).1.toInt ≤ 300 ∧ -300 ≤ (pt p).2.1.toInt ∧ (pt p).2.1.toInt ≤ 300 := by
  have := hP p (prs_at hi).1
  unfold ptOk at this
  omega

theorem c_X7_isTogether {l : Launch} {G : Gx} {d : Nat} {σ : Sg} {Q : Option Value → Sg → Prop} {n i j p q : Nat} {pt : Nat → Pt} {x1 x2 : Int32} (hS : okStand σ n pt) (hn : n ≤ 40) (hi : (prs n pt)[i]? = some p) (hj : (prs n pt)[j]? = some q) (hx : x1.toInt = (i : Int)) (hy : x2.toInt = (j : Int)) (ht : apt (pt p) (pt q) = false → Q (some (.int 1)) σ) (hf : apt (pt p) (pt q) = true → Q (some (.int 0)) σ) : Z l G M_X7_isTogether (d) 0 [some (.ref 11), some (.int x1), some (.int x2)] [] σ Q := by
  have li := st_lt hn hi
  have lj := st_lt hn hj
  have ei := st_xy hS hi
  have ej := st_xy hS hj
  refine z_sub (L' := [some (.ref 11), some (.int x1), some (.int x2)]) ⟨rfl, rfl, rfl, trivial⟩ ?_
  refine z_aload_n (pc := 0) dX7_isTogether_0 rfl ?_
  refine z_getR (pc := 1) (t := 13) dX7_isTogether_1 fk_X7_15 rfl (by decide) (by decide) (by decide) rfl ?_
  refine z_iload_n (pc := 4) dX7_isTogether_4 rfl ?_
  refine z_ialdN (pc := 5) i dX7_isTogether_5 rfl (by decide) hx (by show _ < 40; omega) ?_
  refine z_aload_n (pc := 6) dX7_isTogether_6 rfl ?_
  refine z_getR (pc := 7) (t := 13) dX7_isTogether_7 fk_X7_15 rfl (by decide) (by decide) (by decide) rfl ?_
  refine z_iload_n (pc := 10) dX7_isTogether_10 rfl ?_
  refine z_ialdN (pc := 11) j dX7_isTogether_11 rfl (by decide) hy (by show _ < 40; omega) ?_
  refine zq_icmp_ne (pc := 12) (tgt := 34) dX7_isTogether_12 rfl rfl rfl (fun h12 => ?_) (fun h12 => ?_)
  · skip
    refine z_iconst (pc := 34) (v := 0) dX7_isTogether_34 (by decide) ?_
    refine z_zret (pc := 35) dX7_isTogether_35 rfl (by decide) ?_
    exact hf (apt_iff.mpr (by omega))
  · skip
    refine z_aload_n (pc := 15) dX7_isTogether_15 rfl ?_
    refine z_getR (pc := 16) (t := 14) dX7_isTogether_16 fk_X7_18 rfl (by decide) (by decide) (by decide) rfl ?_
    refine z_iload_n (pc := 19) dX7_isTogether_19 rfl ?_
    refine z_ialdN (pc := 20) i dX7_isTogether_20 rfl (by decide) hx (by show _ < 40; omega) ?_
    refine z_aload_n (pc := 21) dX7_isTogether_21 rfl ?_
    refine z_getR (pc := 22) (t := 14) dX7_isTogether_22 fk_X7_18 rfl (by decide) (by decide) (by decide) rfl ?_
    refine z_iload_n (pc := 25) dX7_isTogether_25 rfl ?_
    refine z_ialdN (pc := 26) j dX7_isTogether_26 rfl (by decide) hy (by show _ < 40; omega) ?_
    refine zq_icmp_ne (pc := 27) (tgt := 34) dX7_isTogether_27 rfl rfl rfl (fun h27 => ?_) (fun h27 => ?_)
    · skip
      refine z_iconst (pc := 34) (v := 0) dX7_isTogether_34 (by decide) ?_
      refine z_zret (pc := 35) dX7_isTogether_35 rfl (by decide) ?_
      exact hf (apt_iff.mpr (by omega))
    · skip
      refine z_iconst (pc := 30) (v := 1) dX7_isTogether_30 (by decide) ?_
      refine z_goto (pc := 31) (tgt := 35) dX7_isTogether_31 rfl ?_
      refine z_zret (pc := 35) dX7_isTogether_35 rfl (by decide) ?_
      exact ht (apt_no.mpr (by omega))

theorem c_X7_turn {l : Launch} {G : Gx} {d : Nat} {σ : Sg} {Q : Option Value → Sg → Prop} {n i j k p q r : Nat} {pt : Nat → Pt} {x1 x2 x3 : Int32} (hS : okStand σ n pt) (hP : ∀ i, i < n → ptOk (pt i)) (hn : n ≤ 40) (hi : (prs n pt)[i]? = some p) (hj : (prs n pt)[j]? = some q) (hx : x1.toInt = (i : Int)) (hy : x2.toInt = (j : Int)) (hk : (prs n pt)[k]? = some r) (hz : x3.toInt = (k : Int)) (h : ∀ v : Int32, v.toInt = crs (pt p) (pt q) (pt r) → Q (some (.int v)) σ) : Z l G M_X7_turn (d) 0 [some (.ref 11), some (.int x1), some (.int x2), some (.int x3)] [] σ Q := by
  have li := st_lt hn hi
  have lj := st_lt hn hj
  have ei := st_xy hS hi
  have ej := st_xy hS hj
  have lk := st_lt hn hk
  have ek := st_xy hS hk
  have oi := st_ok hP hi
  have oj := st_ok hP hj
  have ok := st_ok hP hk
  refine z_sub (L' := [some (.ref 11), some (.int x1), some (.int x2), some (.int x3)]) ⟨rfl, rfl, rfl, rfl, trivial⟩ ?_
  refine z_aload_n (pc := 0) dX7_turn_0 rfl ?_
  refine z_getR (pc := 1) (t := 13) dX7_turn_1 fk_X7_15 rfl (by decide) (by decide) (by decide) rfl ?_
  refine z_iload_n (pc := 4) dX7_turn_4 rfl ?_
  refine z_ialdN (pc := 5) j dX7_turn_5 rfl (by decide) hy (by show _ < 40; omega) ?_
  refine z_aload_n (pc := 6) dX7_turn_6 rfl ?_
  refine z_getR (pc := 7) (t := 13) dX7_turn_7 fk_X7_15 rfl (by decide) (by decide) (by decide) rfl ?_
  refine z_iload_n (pc := 10) dX7_turn_10 rfl ?_
  refine z_ialdN (pc := 11) i dX7_turn_11 rfl (by decide) hx (by show _ < 40; omega) ?_
  refine z_isubT (pc := 12) dX7_turn_12 rfl rfl (by omega) (by omega) (fun v12 e12 => ?_)
  refine z_aload_n (pc := 13) dX7_turn_13 rfl ?_
  refine z_getR (pc := 14) (t := 14) dX7_turn_14 fk_X7_18 rfl (by decide) (by decide) (by decide) rfl ?_
  refine z_iload_n (pc := 17) dX7_turn_17 rfl ?_
  refine z_ialdN (pc := 18) k dX7_turn_18 rfl (by decide) hz (by show _ < 40; omega) ?_
  refine z_aload_n (pc := 19) dX7_turn_19 rfl ?_
  refine z_getR (pc := 20) (t := 14) dX7_turn_20 fk_X7_18 rfl (by decide) (by decide) (by decide) rfl ?_
  refine z_iload_n (pc := 23) dX7_turn_23 rfl ?_
  refine z_ialdN (pc := 24) i dX7_turn_24 rfl (by decide) hx (by show _ < 40; omega) ?_
  refine z_isubT (pc := 25) dX7_turn_25 rfl rfl (by omega) (by omega) (fun v25 e25 => ?_)
  have m1 := mulb (a := v12.toInt) (b := v25.toInt) (p := 600) (q := 600) (by omega) (by omega) (by omega) (by omega)
  refine z_imulT (pc := 26) dX7_turn_26 rfl rfl (by omega) (by omega) (fun v26 e26 => ?_)
  refine z_aload_n (pc := 27) dX7_turn_27 rfl ?_
  refine z_getR (pc := 28) (t := 14) dX7_turn_28 fk_X7_18 rfl (by decide) (by decide) (by decide) rfl ?_
  refine z_iload_n (pc := 31) dX7_turn_31 rfl ?_
  refine z_ialdN (pc := 32) j dX7_turn_32 rfl (by decide) hy (by show _ < 40; omega) ?_
  refine z_aload_n (pc := 33) dX7_turn_33 rfl ?_
  refine z_getR (pc := 34) (t := 14) dX7_turn_34 fk_X7_18 rfl (by decide) (by decide) (by decide) rfl ?_
  refine z_iload_n (pc := 37) dX7_turn_37 rfl ?_
  refine z_ialdN (pc := 38) i dX7_turn_38 rfl (by decide) hx (by show _ < 40; omega) ?_
  refine z_isubT (pc := 39) dX7_turn_39 rfl rfl (by omega) (by omega) (fun v39 e39 => ?_)
  refine z_aload_n (pc := 40) dX7_turn_40 rfl ?_
  refine z_getR (pc := 41) (t := 13) dX7_turn_41 fk_X7_15 rfl (by decide) (by decide) (by decide) rfl ?_
  refine z_iload_n (pc := 44) dX7_turn_44 rfl ?_
  refine z_ialdN (pc := 45) k dX7_turn_45 rfl (by decide) hz (by show _ < 40; omega) ?_
  refine z_aload_n (pc := 46) dX7_turn_46 rfl ?_
  refine z_getR (pc := 47) (t := 13) dX7_turn_47 fk_X7_15 rfl (by decide) (by decide) (by decide) rfl ?_
  refine z_iload_n (pc := 50) dX7_turn_50 rfl ?_
  refine z_ialdN (pc := 51) i dX7_turn_51 rfl (by decide) hx (by show _ < 40; omega) ?_
  refine z_isubT (pc := 52) dX7_turn_52 rfl rfl (by omega) (by omega) (fun v52 e52 => ?_)
  have m2 := mulb (a := v39.toInt) (b := v52.toInt) (p := 600) (q := 600) (by omega) (by omega) (by omega) (by omega)
  refine z_imulT (pc := 53) dX7_turn_53 rfl rfl (by omega) (by omega) (fun v53 e53 => ?_)
  refine z_isubT (pc := 54) dX7_turn_54 rfl rfl (by omega) (by omega) (fun v54 e54 => ?_)
  refine z_iret (pc := 55) dX7_turn_55 rfl ?_
  refine h _ ?_
  unfold crs
  rw [e54, e26, e53, e12, e25, e39, e52, ei.1, ei.2, ej.1, ej.2, ek.1, ek.2]

theorem c_first_loop {l : Launch} {G : Gx} {d : Nat} {σ : Sg} {Q : Option Value → Sg → Prop} {n i j p q : Nat} {pt : Nat → Pt} {x1 x2 : Int32} (hS : okStand σ n pt) (hP : ∀ i, i < n → ptOk (pt i)) (hn : n ≤ 40) (hi : (prs n pt)[i]? = some p) (hj : (prs n pt)[j]? = some q) (hx : x1.toInt = (i : Int)) (hy : x2.toInt = (j : Int)) (hij : i < j) (ht : fstP (prs n pt) pt p q = true → Q (some (.int 1)) σ) (hf : fstP (prs n pt) pt p q = false → Q (some (.int 0)) σ) : ∀ (f k : Nat) (c : Int32), c.toInt = (k : Int) → k ≤ j → j - k < f → (∀ k' r, k' < k → (prs n pt)[k']? = some r → (k' < i ∨ (i < k' ∧ apt (pt p) (pt r) = true)) → crs (pt p) (pt q) (pt r) ≠ 0) → Z l G M_X5_isFirstPair (d + 1) 3 [some (.ref 18), some (.ref 11), some (.int x1), some (.int x2), some (.int c), none] [] σ Q := by
  intro f
  induction f with
  | zero => intro k c hc hkj hfu hno; omega
  | succ f ih =>
  intro k c hc hkj hfu hno
  have hl := prs_len n pt
  have hjl := (List.getElem?_eq_some_iff.mp hj).1
  refine z_iload (pc := 3) dX5_isFirstPair_3 rfl ?_
  refine z_iload_n (pc := 5) dX5_isFirstPair_5 rfl ?_
  refine zq_icmp_ge (pc := 6) (tgt := 62) dX5_isFirstPair_6 rfl rfl rfl (fun h6 => ?_) (fun h6 => ?_)
  · skip
    refine z_iconst (pc := 62) (v := 1) dX5_isFirstPair_62 (by decide) ?_
    refine z_zret (pc := 63) dX5_isFirstPair_63 rfl (by decide) ?_
    exact ht ((fst_idx (prs_sorted n pt) hi hj hij).mpr (fun k' r' h1 h2 h3 => hno k' r' (by omega) h2 h3))
  · skip
    obtain ⟨r, hk⟩ := prs_get (pt := pt) (n := n) (j := k) (by omega)
    refine z_iload (pc := 9) dX5_isFirstPair_9 rfl ?_
    refine z_iload_n (pc := 11) dX5_isFirstPair_11 rfl ?_
    refine zq_icmp_lt (pc := 12) (tgt := 31) dX5_isFirstPair_12 rfl rfl rfl (fun h12 => ?_) (fun h12 => ?_)
    · skip
      refine z_iconst (pc := 31) (v := 1) dX5_isFirstPair_31 (by decide) ?_
      refine z_goto (pc := 32) (tgt := 36) dX5_isFirstPair_32 rfl ?_
      refine z_istore (pc := 36) dX5_isFirstPair_36 rfl rfl (by dsimp only [setI, setL, List.set]) ?_
      refine z_iload (pc := 38) dX5_isFirstPair_38 rfl ?_
      refine z_if_eq (pc := 40) (tgt := 56) dX5_isFirstPair_40 rfl (fun hc => absurd hc (by decide)) (fun _ => ?_)
      refine z_aload_n (pc := 43) dX5_isFirstPair_43 rfl ?_
      refine z_iload_n (pc := 44) dX5_isFirstPair_44 rfl ?_
      refine z_iload_n (pc := 45) dX5_isFirstPair_45 rfl ?_
      refine z_iload (pc := 46) dX5_isFirstPair_46 rfl ?_
      refine z_iv3 (pc := 48) dX5_isFirstPair_48 kv_X5_63 rfl (by decide) (by decide) rfl rfl ?_
      refine c_X7_turn hS hP hn hi hj hx hy hk hc (fun v ev => ?_)
      refine zq_if_ne (pc := 51) (tgt := 56) dX5_isFirstPair_51 rfl rfl (fun h51 => ?_) (fun h51 => ?_)
      · skip
        refine z_iincT (pc := 56) dX5_isFirstPair_56 rfl rfl (by decide) (by decide) (by omega) (by omega) rfl rfl (fun v => by dsimp only [setI, setL, List.set]) (fun v56 e56 => ?_)
        refine z_goto (pc := 59) (tgt := 3) dX5_isFirstPair_59 rfl ?_
        refine z_sub (L' := [some _, some _, some _, some _, some _, none]) ⟨rfl, rfl, rfl, rfl, rfl, trivial⟩ ?_
        exact ih (k + 1) v56 (by omega) (by omega) (by omega) (fun k' r' hk' hr' hcc => by
          rcases Nat.lt_or_ge k' k with h9 | h9
          · exact hno k' r' h9 hr' hcc
          · have e9 : k' = k := by omega
            subst e9
            rw [hk] at hr'
            cases hr'
            first
            | (rw [← ev]; assumption)
            | (exfalso; rcases hcc with h8 | ⟨h8, h7⟩ <;> first | omega | (rw [qt] at h7; exact absurd h7 (by decide))))
      · skip
        refine z_iconst (pc := 54) (v := 0) dX5_isFirstPair_54 (by decide) ?_
        refine z_zret (pc := 55) dX5_isFirstPair_55 rfl (by decide) ?_
        refine hf ?_
        cases hb : fstP (prs n pt) pt p q with
        | false => rfl
        | true => exact absurd (by rw [← ev]; assumption) ((fst_idx (prs_sorted n pt) hi hj hij).mp hb k r (by omega) hk (by first | exact Or.inl (by omega) | exact Or.inr ⟨by omega, qt⟩))
    · skip
      refine z_iload (pc := 15) dX5_isFirstPair_15 rfl ?_
      refine z_iload_n (pc := 17) dX5_isFirstPair_17 rfl ?_
      refine zq_icmp_le (pc := 18) (tgt := 35) dX5_isFirstPair_18 rfl rfl rfl (fun h18 => ?_) (fun h18 => ?_)
      · skip
        refine z_iconst (pc := 35) (v := 0) dX5_isFirstPair_35 (by decide) ?_
        refine z_istore (pc := 36) dX5_isFirstPair_36 rfl rfl (by dsimp only [setI, setL, List.set]) ?_
        refine z_iload (pc := 38) dX5_isFirstPair_38 rfl ?_
        refine z_if_eq (pc := 40) (tgt := 56) dX5_isFirstPair_40 rfl (fun _ => ?_) (fun hc => absurd hc (by decide))
        refine z_iincT (pc := 56) dX5_isFirstPair_56 rfl rfl (by decide) (by decide) (by omega) (by omega) rfl rfl (fun v => by dsimp only [setI, setL, List.set]) (fun v56 e56 => ?_)
        refine z_goto (pc := 59) (tgt := 3) dX5_isFirstPair_59 rfl ?_
        refine z_sub (L' := [some _, some _, some _, some _, some _, none]) ⟨rfl, rfl, rfl, rfl, rfl, trivial⟩ ?_
        exact ih (k + 1) v56 (by omega) (by omega) (by omega) (fun k' r' hk' hr' hcc => by
          rcases Nat.lt_or_ge k' k with h9 | h9
          · exact hno k' r' h9 hr' hcc
          · have e9 : k' = k := by omega
            subst e9
            rw [hk] at hr'
            cases hr'
            first
            | (rw [← ev]; assumption)
            | (exfalso; rcases hcc with h8 | ⟨h8, h7⟩ <;> first | omega | (rw [qt] at h7; exact absurd h7 (by decide))))
      · skip
        refine z_aload_n (pc := 21) dX5_isFirstPair_21 rfl ?_
        refine z_iload_n (pc := 22) dX5_isFirstPair_22 rfl ?_
        refine z_iload (pc := 23) dX5_isFirstPair_23 rfl ?_
        refine z_iv2 (pc := 25) dX5_isFirstPair_25 kv_X5_48 rfl (by decide) (by decide) rfl rfl ?_
        refine c_X7_isTogether hS hn hi hk hx hc (fun qt => ?_) (fun qt => ?_)
        · skip
          refine z_if_ne (pc := 28) (tgt := 35) dX5_isFirstPair_28 rfl (fun _ => ?_) (fun hc => absurd hc (by decide))
          refine z_iconst (pc := 35) (v := 0) dX5_isFirstPair_35 (by decide) ?_
          refine z_istore (pc := 36) dX5_isFirstPair_36 rfl rfl (by dsimp only [setI, setL, List.set]) ?_
          refine z_iload (pc := 38) dX5_isFirstPair_38 rfl ?_
          refine z_if_eq (pc := 40) (tgt := 56) dX5_isFirstPair_40 rfl (fun _ => ?_) (fun hc => absurd hc (by decide))
          refine z_iincT (pc := 56) dX5_isFirstPair_56 rfl rfl (by decide) (by decide) (by omega) (by omega) rfl rfl (fun v => by dsimp only [setI, setL, List.set]) (fun v56 e56 => ?_)
          refine z_goto (pc := 59) (tgt := 3) dX5_isFirstPair_59 rfl ?_
          refine z_sub (L' := [some _, some _, some _, some _, some _, none]) ⟨rfl, rfl, rfl, rfl, rfl, trivial⟩ ?_
          exact ih (k + 1) v56 (by omega) (by omega) (by omega) (fun k' r' hk' hr' hcc => by
            rcases Nat.lt_or_ge k' k with h9 | h9
            · exact hno k' r' h9 hr' hcc
            · have e9 : k' = k := by omega
              subst e9
              rw [hk] at hr'
              cases hr'
              first
              | (rw [← ev]; assumption)
              | (exfalso; rcases hcc with h8 | ⟨h8, h7⟩ <;> first | omega | (rw [qt] at h7; exact absurd h7 (by decide))))
        · skip
          refine z_if_ne (pc := 28) (tgt := 35) dX5_isFirstPair_28 rfl (fun hc => absurd hc (by decide)) (fun _ => ?_)
          refine z_iconst (pc := 31) (v := 1) dX5_isFirstPair_31 (by decide) ?_
          refine z_goto (pc := 32) (tgt := 36) dX5_isFirstPair_32 rfl ?_
          refine z_istore (pc := 36) dX5_isFirstPair_36 rfl rfl (by dsimp only [setI, setL, List.set]) ?_
          refine z_iload (pc := 38) dX5_isFirstPair_38 rfl ?_
          refine z_if_eq (pc := 40) (tgt := 56) dX5_isFirstPair_40 rfl (fun hc => absurd hc (by decide)) (fun _ => ?_)
          refine z_aload_n (pc := 43) dX5_isFirstPair_43 rfl ?_
          refine z_iload_n (pc := 44) dX5_isFirstPair_44 rfl ?_
          refine z_iload_n (pc := 45) dX5_isFirstPair_45 rfl ?_
          refine z_iload (pc := 46) dX5_isFirstPair_46 rfl ?_
          refine z_iv3 (pc := 48) dX5_isFirstPair_48 kv_X5_63 rfl (by decide) (by decide) rfl rfl ?_
          refine c_X7_turn hS hP hn hi hj hx hy hk hc (fun v ev => ?_)
          refine zq_if_ne (pc := 51) (tgt := 56) dX5_isFirstPair_51 rfl rfl (fun h51 => ?_) (fun h51 => ?_)
          · skip
            refine z_iincT (pc := 56) dX5_isFirstPair_56 rfl rfl (by decide) (by decide) (by omega) (by omega) rfl rfl (fun v => by dsimp only [setI, setL, List.set]) (fun v56 e56 => ?_)
            refine z_goto (pc := 59) (tgt := 3) dX5_isFirstPair_59 rfl ?_
            refine z_sub (L' := [some _, some _, some _, some _, some _, none]) ⟨rfl, rfl, rfl, rfl, rfl, trivial⟩ ?_
            exact ih (k + 1) v56 (by omega) (by omega) (by omega) (fun k' r' hk' hr' hcc => by
              rcases Nat.lt_or_ge k' k with h9 | h9
              · exact hno k' r' h9 hr' hcc
              · have e9 : k' = k := by omega
                subst e9
                rw [hk] at hr'
                cases hr'
                first
                | (rw [← ev]; assumption)
                | (exfalso; rcases hcc with h8 | ⟨h8, h7⟩ <;> first | omega | (rw [qt] at h7; exact absurd h7 (by decide))))
          · skip
            refine z_iconst (pc := 54) (v := 0) dX5_isFirstPair_54 (by decide) ?_
            refine z_zret (pc := 55) dX5_isFirstPair_55 rfl (by decide) ?_
            refine hf ?_
            cases hb : fstP (prs n pt) pt p q with
            | false => rfl
            | true => exact absurd (by rw [← ev]; assumption) ((fst_idx (prs_sorted n pt) hi hj hij).mp hb k r (by omega) hk (by first | exact Or.inl (by omega) | exact Or.inr ⟨by omega, qt⟩))

theorem c_X5_isFirstPair {l : Launch} {G : Gx} {d : Nat} {σ : Sg} {Q : Option Value → Sg → Prop} {n i j p q : Nat} {pt : Nat → Pt} {x1 x2 : Int32} (hS : okStand σ n pt) (hP : ∀ i, i < n → ptOk (pt i)) (hn : n ≤ 40) (hi : (prs n pt)[i]? = some p) (hj : (prs n pt)[j]? = some q) (hx : x1.toInt = (i : Int)) (hy : x2.toInt = (j : Int)) (hij : i < j) (ht : fstP (prs n pt) pt p q = true → Q (some (.int 1)) σ) (hf : fstP (prs n pt) pt p q = false → Q (some (.int 0)) σ) : Z l G M_X5_isFirstPair (d + 1) 0 [some (.ref 18), some (.ref 11), some (.int x1), some (.int x2)] [] σ Q := by
  refine z_sub (L' := [some (.ref 18), some (.ref 11), some (.int x1), some (.int x2), none, none]) ⟨rfl, rfl, rfl, rfl, trivial⟩ ?_
  refine z_iconst (pc := 0) (v := 0) dX5_isFirstPair_0 (by decide) ?_
  refine z_istore (pc := 1) dX5_isFirstPair_1 rfl rfl (by dsimp only [setI, setL, List.set]) ?_
  exact c_first_loop hS hP hn hi hj hx hy hij ht hf (j + 1) 0 0 (by decide) (by omega) (by omega) (fun k' r' h => absurd h (by omega))

theorem cnt_step {P : List Nat} {f : Nat → Bool} {k r : Nat} (h : P[k]? = some r) : ((P.take (k + 1)).filter f).length = ((P.take k).filter f).length + (if f r then 1 else 0) := by
  rw [take_step h, List.filter_append, List.length_append]
  cases hf : f r <;> simp [hf]

theorem c_on_loop {l : Launch} {G : Gx} {d : Nat} {σ : Sg} {Q : Option Value → Sg → Prop} {n i j p q : Nat} {pt : Nat → Pt} {x1 x2 : Int32} (hS : okStand σ n pt) (hP : ∀ i, i < n → ptOk (pt i)) (hn : n ≤ 40) (hi : (prs n pt)[i]? = some p) (hj : (prs n pt)[j]? = some q) (hx : x1.toInt = (i : Int)) (hy : x2.toInt = (j : Int)) (h : ∀ r : Int32, r.toInt = (cON (prs n pt) pt (p, q) : Int) → Q (some (.int r)) σ) : ∀ (f k : Nat) (y c : Int32), c.toInt = (k : Int) → k ≤ (prs n pt).length → (prs n pt).length - k < f → y.toInt = ((((prs n pt).take k).filter (fun k => decide (crs (pt p) (pt q) (pt k) = 0))).length : Int) → Z l G M_X5_plantsOn (d + 1) 6 [some (.ref 18), some (.ref 11), some (.int x1), some (.int x2), some (.int y), some (.int c)] [] σ Q := by
  intro f
  induction f with
  | zero => intro k y c hc hkj hf hy2; omega
  | succ f ih =>
  intro k y c hc hkj hf hy2
  have hl := prs_len n pt
  have hm := hS.1
  have hfl := List.length_filter_le (fun k => decide (crs (pt p) (pt q) (pt k) = 0)) ((prs n pt).take k)
  rw [List.length_take] at hfl
  refine z_iload (pc := 6) dX5_plantsOn_6 rfl ?_
  refine z_aload_n (pc := 8) dX5_plantsOn_8 rfl ?_
  refine z_getI (pc := 9) dX5_plantsOn_9 fk_X5_45 rfl (by decide) (by decide) (by decide) ?_
  refine zq_icmp_ge (pc := 12) (tgt := 35) dX5_plantsOn_12 rfl rfl rfl (fun h12 => ?_) (fun h12 => ?_)
  · skip
    refine z_iload (pc := 35) dX5_plantsOn_35 rfl ?_
    refine z_iret (pc := 37) dX5_plantsOn_37 rfl ?_
    refine h y ?_
    rw [hy2, take_all (by omega)]
    rfl
  · skip
    obtain ⟨r, hk⟩ := prs_get (pt := pt) (n := n) (j := k) (by omega)
    refine z_aload_n (pc := 15) dX5_plantsOn_15 rfl ?_
    refine z_iload_n (pc := 16) dX5_plantsOn_16 rfl ?_
    refine z_iload_n (pc := 17) dX5_plantsOn_17 rfl ?_
    refine z_iload (pc := 18) dX5_plantsOn_18 rfl ?_
    refine z_iv3 (pc := 20) dX5_plantsOn_20 kv_X5_63 rfl (by decide) (by decide) rfl rfl ?_
    refine c_X7_turn hS hP hn hi hj hx hy hk hc (fun v ev => ?_)
    refine zq_if_ne (pc := 23) (tgt := 29) dX5_plantsOn_23 rfl rfl (fun h23 => ?_) (fun h23 => ?_)
    · skip
      refine z_iincT (pc := 29) dX5_plantsOn_29 rfl rfl (by decide) (by decide) (by omega) (by omega) rfl rfl (fun v => by dsimp only [setI, setL, List.set]) (fun v29 e29 => ?_)
      refine z_goto (pc := 32) (tgt := 6) dX5_plantsOn_32 rfl ?_
      have hst := cnt_step (f := (fun k => decide (crs (pt p) (pt q) (pt k) = 0))) hk
      first | exact ih (k + 1) v26 v29 (by omega) (by omega) (by omega) (by rw [hst, if_pos (decide_eq_true (by rw [← ev]; assumption))]; omega) | exact ih (k + 1) y v29 (by omega) (by omega) (by omega) (by rw [hst, if_neg (by rw [decide_eq_true_eq, ← ev]; assumption)]; omega)
    · skip
      refine z_iincT (pc := 26) dX5_plantsOn_26 rfl rfl (by decide) (by decide) (by omega) (by omega) rfl rfl (fun v => by dsimp only [setI, setL, List.set]) (fun v26 e26 => ?_)
      refine z_iincT (pc := 29) dX5_plantsOn_29 rfl rfl (by decide) (by decide) (by omega) (by omega) rfl rfl (fun v => by dsimp only [setI, setL, List.set]) (fun v29 e29 => ?_)
      refine z_goto (pc := 32) (tgt := 6) dX5_plantsOn_32 rfl ?_
      have hst := cnt_step (f := (fun k => decide (crs (pt p) (pt q) (pt k) = 0))) hk
      first | exact ih (k + 1) v26 v29 (by omega) (by omega) (by omega) (by rw [hst, if_pos (decide_eq_true (by rw [← ev]; assumption))]; omega) | exact ih (k + 1) y v29 (by omega) (by omega) (by omega) (by rw [hst, if_neg (by rw [decide_eq_true_eq, ← ev]; assumption)]; omega)

theorem c_X5_plantsOn {l : Launch} {G : Gx} {d : Nat} {σ : Sg} {Q : Option Value → Sg → Prop} {n i j p q : Nat} {pt : Nat → Pt} {x1 x2 : Int32} (hS : okStand σ n pt) (hP : ∀ i, i < n → ptOk (pt i)) (hn : n ≤ 40) (hi : (prs n pt)[i]? = some p) (hj : (prs n pt)[j]? = some q) (hx : x1.toInt = (i : Int)) (hy : x2.toInt = (j : Int)) (h : ∀ r : Int32, r.toInt = (cON (prs n pt) pt (p, q) : Int) → Q (some (.int r)) σ) : Z l G M_X5_plantsOn (d + 1) 0 [some (.ref 18), some (.ref 11), some (.int x1), some (.int x2)] [] σ Q := by
  refine z_sub (L' := [some (.ref 18), some (.ref 11), some (.int x1), some (.int x2), none, none]) ⟨rfl, rfl, rfl, rfl, trivial⟩ ?_
  refine z_iconst (pc := 0) (v := 0) dX5_plantsOn_0 (by decide) ?_
  refine z_istore (pc := 1) dX5_plantsOn_1 rfl rfl (by dsimp only [setI, setL, List.set]) ?_
  refine z_iconst (pc := 3) (v := 0) dX5_plantsOn_3 (by decide) ?_
  refine z_istore (pc := 4) dX5_plantsOn_4 rfl rfl (by dsimp only [setI, setL, List.set]) ?_
  exact c_on_loop hS hP hn hi hj hx hy h ((prs n pt).length + 1) 0 0 0 (by decide) (by omega) (by omega) rfl
