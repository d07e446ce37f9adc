theorem c_X10_joined {l : Launch} {G : Gx} {d : Nat} {σ : Sg} {Q : Option Value → Sg → Prop} {n : Nat} {pt : Nat → Pt} (hn : n ≤ 40) (hR : rcP σ n pt) (hP : ∀ i, i < n → ptOk (pt i)) (hc : σ.1 11 6 ≠ 0 → okStand σ n pt) (hl : σ.1 18 7 ≠ 0 → okLines σ n pt) (h : ∀ τ, okLines τ n pt → τ.1 18 7 ≠ 0 → (τ.1 11 6 ≠ 0 → okStand τ n pt) → (σ.1 11 6 ≠ 0 → τ.1 11 6 ≠ 0) → eqX 11 23 σ τ → Q (some (.ref 18)) τ) : Z l G M_X10_joined (d + 5) 0 [some (.ref 0)] [] σ Q := by
  refine z_sub (L' := [some (.ref 0)]) ⟨rfl, trivial⟩ ?_
  refine z_aload_n (pc := 0) dX10_joined_0 rfl ?_
  refine z_getR (pc := 1) (t := 18) dX10_joined_1 fk_X10_59 rfl (by decide) (by decide) (by decide) rfl ?_
  refine z_getI (pc := 4) dX10_joined_4 fk_X10_315 rfl (by decide) (by decide) (by decide) ?_
  refine zq_if_ne (pc := 7) (tgt := 21) dX10_joined_7 rfl rfl (fun h7 => ?_) (fun h7 => ?_)
  · skip
    refine z_aload_n (pc := 21) dX10_joined_21 rfl ?_
    refine z_getR (pc := 22) (t := 18) dX10_joined_22 fk_X10_59 rfl (by decide) (by decide) (by decide) rfl ?_
    refine z_aret (pc := 25) dX10_joined_25 rfl (by first | exact Or.inl ⟨_, rfl⟩ | exact Or.inr ⟨_, rfl⟩) ?_
    first | exact h _ ⟨okLns_of ul, fun z => absurd u5 z⟩ (by rw [u7]; decide) (fun _ => hSu) (fun _ => by rw [(uE 11 (by omega)).1]; exact hkn) (eqX_tr (eqX_wide hE (by omega) (by omega)) (eqX_wide uE (by omega) (by omega))) | exact h _ (hl (fun z => h7 (by rw [z]; rfl))) (fun z => h7 (by rw [z]; rfl)) hc (fun z => z) eqX_rf
  · skip
    refine z_aload_n (pc := 10) dX10_joined_10 rfl ?_
    refine z_getR (pc := 11) (t := 18) dX10_joined_11 fk_X10_59 rfl (by decide) (by decide) (by decide) rfl ?_
    refine z_aload_n (pc := 14) dX10_joined_14 rfl ?_
    refine z_iv0 (pc := 15) dX10_joined_15 kv_X10_165 rfl (by decide) (by decide) rfl rfl ?_
    refine c_X10_gathered hn hR hc (fun τ hS hkn hE => ?_)
    refine z_iv1 (pc := 18) dX10_joined_18 kv_X10_321 rfl (by decide) (by decide) rfl rfl ?_
    refine c_lgather hS hP hn (fun υ ul u5 u7 uE => ?_)
    have hSu : okStand υ n pt := okStand_cong (c := True) (fun o h1 h3 => uE o (by omega)) (fun _ => hS) trivial
    refine z_aload_n (pc := 21) dX10_joined_21 rfl ?_
    refine z_getR (pc := 22) (t := 18) dX10_joined_22 fk_X10_59 rfl (by decide) (by decide) (by decide) rfl ?_
    refine z_aret (pc := 25) dX10_joined_25 rfl (by first | exact Or.inl ⟨_, rfl⟩ | exact Or.inr ⟨_, rfl⟩) ?_
    first | exact h _ ⟨okLns_of ul, fun z => absurd u5 z⟩ (by rw [u7]; decide) (fun _ => hSu) (fun _ => by rw [(uE 11 (by omega)).1]; exact hkn) (eqX_tr (eqX_wide hE (by omega) (by omega)) (eqX_wide uE (by omega) (by omega))) | exact h _ (hl (fun z => h7 (by rw [z]; rfl))) (fun z => h7 (by rw [z]; rfl)) hc (fun z => z) eqX_rf

theorem filter_step {L : List (Nat × Nat)} {ok : Nat × Nat → Bool} {k : Nat} {z : Nat × Nat} (h : L[k]? = some z) : (L.take (k + 1)).filter ok = (L.take k).filter ok ++ (if ok z = true then [z] else []) := by
  rw [List.take_succ, h, List.filter_append]
  congr 1
  cases hz : ok z <;> simp [hz]

theorem c_fur_loop {l : Launch} {G : Gx} {d : Nat} {σ : Sg} {Q : Option Value → Sg → Prop} {n : Nat} {pt : Nat → Pt} (hS : okStand σ n pt) (hP : ∀ i, i < n → ptOk (pt i)) (hn : n ≤ 40) (hL : okLns σ n pt) (h : ∀ τ, okFur τ n pt → τ.1 18 5 = 1 → okLns τ n pt → τ.1 18 7 = σ.1 18 7 → eqX 18 23 σ τ → Q none τ) : ∀ (f k : Nat) (x : Int32) (τ : Sg), x.toInt = (k : Int) → k ≤ (LPR (prs n pt) pt).length → (LPR (prs n pt) pt).length - k < f → (τ.1 18 6).toInt = ((((LPR (prs n pt) pt).take k).filter (okf n pt)).length : Int) → (∀ t z, (((LPR (prs n pt) pt).take k).filter (okf n pt))[t]? = some z → ∃ kk : Nat, (τ.1 22 t).toInt = (kk : Int) ∧ (LPR (prs n pt) pt)[kk]? = some z) → okLns τ n pt → τ.1 18 7 = σ.1 18 7 → eqX 18 23 σ τ → Z l G M_X5_findFurrows (d + 2) 7 [some (.ref 18), some (.ref 11), some (.int x)] [] τ Q := by
  intro f
  induction f with
  | zero => intro k x τ hx hk hf h6 hfu hLt h7 hE; omega
  | succ f ih =>
  intro k x τ hx hk hf h6 hfu hLt h7 hE
  have hl7 := LPR_len (P := prs n pt) (pt := pt) (by have := prs_len n pt; omega)
  have h8 := hLt.1
  refine z_iload_n (pc := 7) dX5_findFurrows_7 rfl ?_
  refine z_aload_n (pc := 8) dX5_findFurrows_8 rfl ?_
  refine z_getI (pc := 9) dX5_findFurrows_9 fk_X5_31 rfl (by decide) (by decide) (by decide) ?_
  refine zq_icmp_ge (pc := 12) (tgt := 90) dX5_findFurrows_12 rfl rfl rfl (fun h12 => ?_) (fun h12 => ?_)
  · skip
    refine z_aload_n (pc := 90) dX5_findFurrows_90 rfl ?_
    refine z_iconst (pc := 91) (v := 1) dX5_findFurrows_91 (by decide) ?_
    refine z_putB (pc := 92) dX5_findFurrows_92 fk_X5_41 rfl (by decide) (by decide) (by decide) (by decide) ?_
    refine z_vret (pc := 95) dX5_findFurrows_95 rfl ?_
    have ek : k = (LPR (prs n pt) pt).length := by omega
    subst ek
    rw [List.take_length] at h6 hfu
    refine h _ ⟨?_, fun t z ht => ?_⟩ (uI_eq _ _ _ _) (okLns_cong (by simp (disch := omega) only [uI_row, uI_2, uI_nk, uI_no, uI_eq]) (by simp (disch := omega) only [uI_row, uI_2, uI_nk, uI_no, uI_eq]) (by simp (disch := omega) only [uI_row, uI_2, uI_nk, uI_no, uI_eq]) (fun o h1 h3 => by simp (disch := omega) only [uI_row, uI_2, uI_nk, uI_no, uI_eq]) hLt) (by simp (disch := omega) only [uI_row, uI_2, uI_nk, uI_no, uI_eq]; exact h7) (eqX_uI hE (by omega) (by omega))
    · rw [uI_nk (by omega)]; exact h6
    · rw [uI_row (by omega)]; exact hfu t z ht
  · skip
    refine z_aload_n (pc := 15) dX5_findFurrows_15 rfl ?_
    refine z_getR (pc := 16) (t := 23) dX5_findFurrows_16 fk_X5_27 rfl (by decide) (by decide) (by decide) rfl ?_
    refine z_aload_n (pc := 19) dX5_findFurrows_19 rfl ?_
    refine z_getR (pc := 20) (t := 19) dX5_findFurrows_20 fk_X5_9 rfl (by decide) (by decide) (by decide) rfl ?_
    refine z_iload_n (pc := 23) dX5_findFurrows_23 rfl ?_
    refine z_ialdN (pc := 24) k dX5_findFurrows_24 rfl (by decide) hx (by show _ < 780; omega) ?_
    refine z_aload_n (pc := 25) dX5_findFurrows_25 rfl ?_
    refine z_getR (pc := 26) (t := 20) dX5_findFurrows_26 fk_X5_15 rfl (by decide) (by decide) (by decide) rfl ?_
    refine z_iload_n (pc := 29) dX5_findFurrows_29 rfl ?_
    refine z_ialdN (pc := 30) k dX5_findFurrows_30 rfl (by decide) hx (by show _ < 780; omega) ?_
    refine z_aload_n (pc := 31) dX5_findFurrows_31 rfl ?_
    refine z_getR (pc := 32) (t := 21) dX5_findFurrows_32 fk_X5_18 rfl (by decide) (by decide) (by decide) rfl ?_
    refine z_iload_n (pc := 35) dX5_findFurrows_35 rfl ?_
    refine z_ialdN (pc := 36) k dX5_findFurrows_36 rfl (by decide) hx (by show _ < 780; omega) ?_
    refine z_iv3 (pc := 37) dX5_findFurrows_37 kv_X5_103 rfl (by decide) (by decide) rfl rfl ?_
    obtain ⟨z, hz⟩ : ∃ z, (LPR (prs n pt) pt)[k]? = some z := ⟨_, List.getElem?_eq_getElem (by omega)⟩
    have hzm := List.mem_of_getElem? hz
    have hzl := hLt.2.1 k z hz
    have hza := lnO_abs hP hzm
    refine c_bec1 (t := lnO pt z) rfl (by decide) hzl.1 hzl.2.1 hzl.2.2 hza.1 hza.2.1 hza.2.2 (lnO_prim (LPR_mem hzm).2.2) (fun υ uL urow u2 => ?_)
    have hSu : okStand υ n pt := okStand_cong (c := True) (σ := σ) (fun o h1 h3 => ⟨(urow o (by omega)).trans (hE o (by omega)).1, by rw [u2]; exact (hE o (by omega)).2⟩) (fun _ => hS) trivial
    have u18 := urow 18 (by omega)
    have hEu : eqX 18 23 σ υ := fun o ho => ⟨(urow o (by omega)).trans (hE o ho).1, by rw [u2]; exact (hE o ho).2⟩
    have hLu : okLns υ n pt := okLns_cong (by rw [u18]) (by rw [u18]) (by rw [u18]) (fun o h1 h3 => urow o (by omega)) hLt
    have hst := filter_step (ok := okf n pt) hz
    have hfl := List.length_filter_le (okf n pt) ((LPR (prs n pt) pt).take k)
    rw [List.length_take] at hfl
    refine z_aload_n (pc := 40) dX5_findFurrows_40 rfl ?_
    refine z_aload_n (pc := 41) dX5_findFurrows_41 rfl ?_
    refine z_getR (pc := 42) (t := 23) dX5_findFurrows_42 fk_X5_27 rfl (by decide) (by decide) (by decide) rfl ?_
    refine z_iconst (pc := 45) (v := 0) dX5_findFurrows_45 (by decide) ?_
    refine z_iv2 (pc := 46) dX5_findFurrows_46 kv_X5_107 rfl (by decide) (by decide) rfl rfl ?_
    refine c_X7_isHalvedBy (w := 0) (t := lnO pt z) rfl (by decide) hSu hn rfl (by decide) uL hza hP (fun q0 => ?_) (fun q0 => ?_)
    · skip
      refine z_if_eq (pc := 49) (tgt := 84) dX5_findFurrows_49 rfl (fun hc => absurd hc (by decide)) (fun _ => ?_)
      refine z_aload_n (pc := 52) dX5_findFurrows_52 rfl ?_
      refine z_aload_n (pc := 53) dX5_findFurrows_53 rfl ?_
      refine z_getR (pc := 54) (t := 23) dX5_findFurrows_54 fk_X5_27 rfl (by decide) (by decide) (by decide) rfl ?_
      refine z_iconst (pc := 57) (v := 1) dX5_findFurrows_57 (by decide) ?_
      refine z_iv2 (pc := 58) dX5_findFurrows_58 kv_X5_107 rfl (by decide) (by decide) rfl rfl ?_
      refine c_X7_isHalvedBy (w := 1) (t := lnO pt z) rfl (by decide) hSu hn rfl (by decide) uL hza hP (fun q1 => ?_) (fun q1 => ?_)
      · skip
        refine z_if_eq (pc := 61) (tgt := 84) dX5_findFurrows_61 rfl (fun hc => absurd hc (by decide)) (fun _ => ?_)
        refine z_aload_n (pc := 64) dX5_findFurrows_64 rfl ?_
        refine z_getR (pc := 65) (t := 22) dX5_findFurrows_65 fk_X5_21 rfl (by decide) (by decide) (by decide) rfl ?_
        refine z_aload_n (pc := 68) dX5_findFurrows_68 rfl ?_
        refine z_getI (pc := 69) dX5_findFurrows_69 fk_X5_100 rfl (by decide) (by decide) (by decide) ?_
        refine z_iload_n (pc := 72) dX5_findFurrows_72 rfl ?_
        refine z_iastN (pc := 73) (((LPR (prs n pt) pt).take k).filter (okf n pt)).length dX5_findFurrows_73 rfl (by decide) (by rw [u18]; exact h6) (by show _ < 780; omega) ?_
        refine z_aload_n (pc := 74) dX5_findFurrows_74 rfl ?_
        refine z_dup (pc := 75) dX5_findFurrows_75 rfl ?_
        refine z_getI (pc := 76) dX5_findFurrows_76 fk_X5_100 rfl (by decide) (by decide) (by decide) ?_
        (try simp (disch := omega) only [uI_row, uI_nk, uI_no, uI_eq])
        rw [u18]
        refine z_iconst (pc := 79) (v := 1) dX5_findFurrows_79 (by decide) ?_
        refine z_iaddT (pc := 80) (cy := 1) dX5_findFurrows_80 rfl (by decide) (by omega) (by omega) (fun v80 e80 => ?_)
        refine z_putI (pc := 81) dX5_findFurrows_81 fk_X5_100 rfl (by decide) (by decide) (by decide) ?_
        refine z_iincT (pc := 84) dX5_findFurrows_84 rfl rfl (by decide) (by decide) (by omega) (by omega) rfl rfl (fun v => by dsimp only [setI, setL, List.set]) (fun v84 e84 => ?_)
        refine z_goto (pc := 87) (tgt := 7) dX5_findFurrows_87 rfl ?_
        first
        | (have hok : ¬ okf n pt z = true := by
             show ¬ (hlv n pt 0 (lnO pt z) && hlv n pt 1 (lnO pt z)) = true
             first | (rw [q0, Bool.false_and]; decide) | (rw [q1, Bool.and_false]; decide)
           rw [if_neg hok, List.append_nil] at hst
           exact ih (k + 1) v84 υ (by omega) (by omega) (by omega) (by rw [hst, u18]; exact h6) (fun t y ht => by rw [hst] at ht; rw [urow 22 (by omega)]; exact hfu t y ht) hLu (by rw [u18]; exact h7) hEu)
        | (have hok : okf n pt z = true := by show (hlv n pt 0 (lnO pt z) && hlv n pt 1 (lnO pt z)) = true; rw [q0, q1]; rfl
           rw [if_pos hok] at hst
           have hlen : ((((LPR (prs n pt) pt).take k).filter (okf n pt)).length : Int) ≤ k := by omega
           refine ih (k + 1) v84 _ (by omega) (by omega) (by omega) ?_ (fun t y ht => ?_) ?_ ?_ ?_
           · rw [hst, List.length_append, uI_eq, e80]; simp; exact h6
           · rw [hst] at ht
             rcases Nat.lt_or_ge t (((LPR (prs n pt) pt).take k).filter (okf n pt)).length with h9 | h9
             · rw [List.getElem?_append_left h9] at ht
               obtain ⟨kk, k1, k2⟩ := hfu t y ht
               refine ⟨kk, ?_, k2⟩
               rw [uI_row (by omega), uI_nk (by omega), urow 22 (by omega)]
               exact k1
             · have hl9 := (List.getElem?_eq_some_iff.mp ht).1
               rw [List.length_append] at hl9
               simp only [List.length_cons, List.length_nil] at hl9
               have e9 : t = (((LPR (prs n pt) pt).take k).filter (okf n pt)).length := by omega
               subst e9
               rw [List.getElem?_append_right (Nat.le_refl _), Nat.sub_self] at ht
               simp at ht
               subst ht
               exact ⟨k, by rw [uI_row (by omega), uI_eq]; exact hx, hz⟩
           · exact okLns_cong (by simp (disch := omega) only [uI_row, uI_2, uI_nk, uI_no, uI_eq]) (by simp (disch := omega) only [uI_row, uI_2, uI_nk, uI_no, uI_eq]) (by simp (disch := omega) only [uI_row, uI_2, uI_nk, uI_no, uI_eq]) (fun o h1 h3 => by simp (disch := omega) only [uI_row, uI_2, uI_nk, uI_no, uI_eq]) hLu
           · simp (disch := omega) only [uI_row, uI_2, uI_nk, uI_no, uI_eq]; rw [u18]; exact h7
           · exact eqX_uI (eqX_uI hEu (by omega) (by omega)) (by omega) (by omega))
      · skip
        refine z_if_eq (pc := 61) (tgt := 84) dX5_findFurrows_61 rfl (fun _ => ?_) (fun hc => absurd hc (by decide))
        refine z_iincT (pc := 84) dX5_findFurrows_84 rfl rfl (by decide) (by decide) (by omega) (by omega) rfl rfl (fun v => by dsimp only [setI, setL, List.set]) (fun v84 e84 => ?_)
        refine z_goto (pc := 87) (tgt := 7) dX5_findFurrows_87 rfl ?_
        first
        | (have hok : ¬ okf n pt z = true := by
             show ¬ (hlv n pt 0 (lnO pt z) && hlv n pt 1 (lnO pt z)) = true
             first | (rw [q0, Bool.false_and]; decide) | (rw [q1, Bool.and_false]; decide)
           rw [if_neg hok, List.append_nil] at hst
           exact ih (k + 1) v84 υ (by omega) (by omega) (by omega) (by rw [hst, u18]; exact h6) (fun t y ht => by rw [hst] at ht; rw [urow 22 (by omega)]; exact hfu t y ht) hLu (by rw [u18]; exact h7) hEu)
        | (have hok : okf n pt z = true := by show (hlv n pt 0 (lnO pt z) && hlv n pt 1 (lnO pt z)) = true; rw [q0, q1]; rfl
           rw [if_pos hok] at hst
           have hlen : ((((LPR (prs n pt) pt).take k).filter (okf n pt)).length : Int) ≤ k := by omega
           refine ih (k + 1) v84 _ (by omega) (by omega) (by omega) ?_ (fun t y ht => ?_) ?_ ?_ ?_
           · rw [hst, List.length_append, uI_eq, e80]; simp; exact h6
           · rw [hst] at ht
             rcases Nat.lt_or_ge t (((LPR (prs n pt) pt).take k).filter (okf n pt)).length with h9 | h9
             · rw [List.getElem?_append_left h9] at ht
               obtain ⟨kk, k1, k2⟩ := hfu t y ht
               refine ⟨kk, ?_, k2⟩
               rw [uI_row (by omega), uI_nk (by omega), urow 22 (by omega)]
               exact k1
             · have hl9 := (List.getElem?_eq_some_iff.mp ht).1
               rw [List.length_append] at hl9
               simp only [List.length_cons, List.length_nil] at hl9
               have e9 : t = (((LPR (prs n pt) pt).take k).filter (okf n pt)).length := by omega
               subst e9
               rw [List.getElem?_append_right (Nat.le_refl _), Nat.sub_self] at ht
               simp at ht
               subst ht
               exact ⟨k, by rw [uI_row (by omega), uI_eq]; exact hx, hz⟩
           · exact okLns_cong (by simp (disch := omega) only [uI_row, uI_2, uI_nk, uI_no, uI_eq]) (by simp (disch := omega) only [uI_row, uI_2, uI_nk, uI_no, uI_eq]) (by simp (disch := omega) only [uI_row, uI_2, uI_nk, uI_no, uI_eq]) (fun o h1 h3 => by simp (disch := omega) only [uI_row, uI_2, uI_nk, uI_no, uI_eq]) hLu
           · simp (disch := omega) only [uI_row, uI_2, uI_nk, uI_no, uI_eq]; rw [u18]; exact h7
           · exact eqX_uI (eqX_uI hEu (by omega) (by omega)) (by omega) (by omega))
    · skip
      refine z_if_eq (pc := 49) (tgt := 84) dX5_findFurrows_49 rfl (fun _ => ?_) (fun hc => absurd hc (by decide))
      refine z_iincT (pc := 84) dX5_findFurrows_84 rfl rfl (by decide) (by decide) (by omega) (by omega) rfl rfl (fun v => by dsimp only [setI, setL, List.set]) (fun v84 e84 => ?_)
      refine z_goto (pc := 87) (tgt := 7) dX5_findFurrows_87 rfl ?_
      first
      | (have hok : ¬ okf n pt z = true := by
           show ¬ (hlv n pt 0 (lnO pt z) && hlv n pt 1 (lnO pt z)) = true
           first | (rw [q0, Bool.false_and]; decide) | (rw [q1, Bool.and_false]; decide)
         rw [if_neg hok, List.append_nil] at hst
         exact ih (k + 1) v84 υ (by omega) (by omega) (by omega) (by rw [hst, u18]; exact h6) (fun t y ht => by rw [hst] at ht; rw [urow 22 (by omega)]; exact hfu t y ht) hLu (by rw [u18]; exact h7) hEu)
      | (have hok : okf n pt z = true := by show (hlv n pt 0 (lnO pt z) && hlv n pt 1 (lnO pt z)) = true; rw [q0, q1]; rfl
         rw [if_pos hok] at hst
         have hlen : ((((LPR (prs n pt) pt).take k).filter (okf n pt)).length : Int) ≤ k := by omega
         refine ih (k + 1) v84 _ (by omega) (by omega) (by omega) ?_ (fun t y ht => ?_) ?_ ?_ ?_
         · rw [hst, List.length_append, uI_eq, e80]; simp; exact h6
         · rw [hst] at ht
           rcases Nat.lt_or_ge t (((LPR (prs n pt) pt).take k).filter (okf n pt)).length with h9 | h9
           · rw [List.getElem?_append_left h9] at ht
             obtain ⟨kk, k1, k2⟩ := hfu t y ht
             refine ⟨kk, ?_, k2⟩
             rw [uI_row (by omega), uI_nk (by omega), urow 22 (by omega)]
             exact k1
           · have hl9 := (List.getElem?_eq_some_iff.mp ht).1
             rw [List.length_append] at hl9
             simp only [List.length_cons, List.length_nil] at hl9
             have e9 : t = (((LPR (prs n pt) pt).take k).filter (okf n pt)).length := by omega
             subst e9
             rw [List.getElem?_append_right (Nat.le_refl _), Nat.sub_self] at ht
             simp at ht
             subst ht
             exact ⟨k, by rw [uI_row (by omega), uI_eq]; exact hx, hz⟩
         · exact okLns_cong (by simp (disch := omega) only [uI_row, uI_2, uI_nk, uI_no, uI_eq]) (by simp (disch := omega) only [uI_row, uI_2, uI_nk, uI_no, uI_eq]) (by simp (disch := omega) only [uI_row, uI_2, uI_nk, uI_no, uI_eq]) (fun o h1 h3 => by simp (disch := omega) only [uI_row, uI_2, uI_nk, uI_no, uI_eq]) hLu
         · simp (disch := omega) only [uI_row, uI_2, uI_nk, uI_no, uI_eq]; rw [u18]; exact h7
         · exact eqX_uI (eqX_uI hEu (by omega) (by omega)) (by omega) (by omega))

theorem c_X5_findFurrows {l : Launch} {G : Gx} {d : Nat} {σ : Sg} {Q : Option Value → Sg → Prop} {n : Nat} {pt : Nat → Pt} (hS : okStand σ n pt) (hP : ∀ i, i < n → ptOk (pt i)) (hn : n ≤ 40) (hL : okLns σ n pt) (h : ∀ τ, okFur τ n pt → τ.1 18 5 = 1 → okLns τ n pt → τ.1 18 7 = σ.1 18 7 → eqX 18 23 σ τ → Q none τ) : Z l G M_X5_findFurrows (d + 2) 0 [some (.ref 18), some (.ref 11)] [] σ Q := by
  refine z_sub (L' := [some (.ref 18), some (.ref 11), none]) ⟨rfl, rfl, trivial⟩ ?_
  refine z_aload_n (pc := 0) dX5_findFurrows_0 rfl ?_
  refine z_iconst (pc := 1) (v := 0) dX5_findFurrows_1 (by decide) ?_
  refine z_putI (pc := 2) dX5_findFurrows_2 fk_X5_100 rfl (by decide) (by decide) (by decide) ?_
  refine z_iconst (pc := 5) (v := 0) dX5_findFurrows_5 (by decide) ?_
  refine z_istore_n (pc := 6) dX5_findFurrows_6 rfl rfl (by dsimp only [setI, setL, List.set]) ?_
  exact c_fur_loop hS hP hn hL h ((LPR (prs n pt) pt).length + 1) 0 0 _ (by decide) (by omega) (by omega) (by rw [uI_eq]; rfl) (fun t z ht => by simp at ht) (okLns_cong (by simp (disch := omega) only [uI_row, uI_2, uI_nk, uI_no, uI_eq]) (by simp (disch := omega) only [uI_row, uI_2, uI_nk, uI_no, uI_eq]) (by simp (disch := omega) only [uI_row, uI_2, uI_nk, uI_no, uI_eq]) (fun o h1 h3 => by simp (disch := omega) only [uI_row, uI_2, uI_nk, uI_no, uI_eq]) hL) (by simp (disch := omega) only [uI_row, uI_2, uI_nk, uI_no, uI_eq]) (eqX_uI eqX_rf (by omega) (by omega))

theorem LPR_nil {n : Nat} {pt : Nat → Pt} {σ : Sg} (h : okLns σ n pt) : ((σ.1 18 8).toInt = 0 ↔ LPR (prs n pt) pt = []) := by
  rw [h.1]
  constructor
  · intro e; exact List.length_eq_zero_iff.mp (by omega)
  · intro e; rw [e]; rfl

theorem c_X5_furrowCount {l : Launch} {G : Gx} {d : Nat} {σ : Sg} {Q : Option Value → Sg → Prop} {n : Nat} {pt : Nat → Pt} (hS : okStand σ n pt) (hP : ∀ i, i < n → ptOk (pt i)) (hn : n ≤ 40) (hL : okLines σ n pt) (h : ∀ (r : Int32) (τ : Sg), r.toInt = nFur n pt → okFur τ n pt → okLines τ n pt → τ.1 18 7 = σ.1 18 7 → eqX 18 23 σ τ → Q (some (.int r)) τ) : Z l G M_X5_furrowCount (d + 3) 0 [some (.ref 18), some (.ref 11)] [] σ Q := by
  refine z_sub (L' := [some (.ref 18), some (.ref 11)]) ⟨rfl, rfl, trivial⟩ ?_
  refine z_aload_n (pc := 0) dX5_furrowCount_0 rfl ?_
  refine z_getI (pc := 1) dX5_furrowCount_1 fk_X5_41 rfl (by decide) (by decide) (by decide) ?_
  refine zq_if_ne (pc := 4) (tgt := 12) dX5_furrowCount_4 rfl rfl (fun h4 => ?_) (fun h4 => ?_)
  · skip
    refine z_aload_n (pc := 12) dX5_furrowCount_12 rfl ?_
    refine z_getI (pc := 13) dX5_furrowCount_13 fk_X5_31 rfl (by decide) (by decide) (by decide) ?_
    refine zq_if_ne (pc := 16) (tgt := 23) dX5_furrowCount_16 rfl rfl (fun h16 => ?_) (fun h16 => ?_)
    · skip
      refine z_aload_n (pc := 23) dX5_furrowCount_23 rfl ?_
      refine z_getI (pc := 24) dX5_furrowCount_24 fk_X5_100 rfl (by decide) (by decide) (by decide) ?_
      refine z_iret (pc := 27) dX5_furrowCount_27 rfl ?_
      first
      | (refine h _ _ ?_ t1 ⟨t3, fun _ => t1⟩ t4 t5
         unfold nFur
         first | (rw [if_pos ((LPR_nil t3).mp (by omega))]; rfl) | (rw [if_neg (fun z => by have := (LPR_nil t3).mpr z; omega)]; exact t1.1))
      | (have hfu := hL.2 (fun z => h4 (by rw [z]; rfl))
         refine h _ _ ?_ hfu hL rfl eqX_rf
         unfold nFur
         first | (rw [if_pos ((LPR_nil hL.1).mp (by omega))]; rfl) | (rw [if_neg (fun z => by have := (LPR_nil hL.1).mpr z; omega)]; exact hfu.1))
    · skip
      refine z_iconst (pc := 19) (v := 1) dX5_furrowCount_19 (by decide) ?_
      refine z_goto (pc := 20) (tgt := 27) dX5_furrowCount_20 rfl ?_
      refine z_iret (pc := 27) dX5_furrowCount_27 rfl ?_
      first
      | (refine h _ _ ?_ t1 ⟨t3, fun _ => t1⟩ t4 t5
         unfold nFur
         first | (rw [if_pos ((LPR_nil t3).mp (by omega))]; rfl) | (rw [if_neg (fun z => by have := (LPR_nil t3).mpr z; omega)]; exact t1.1))
      | (have hfu := hL.2 (fun z => h4 (by rw [z]; rfl))
         refine h _ _ ?_ hfu hL rfl eqX_rf
         unfold nFur
         first | (rw [if_pos ((LPR_nil hL.1).mp (by omega))]; rfl) | (rw [if_neg (fun z => by have := (LPR_nil hL.1).mpr z; omega)]; exact hfu.1))
  · skip
    refine z_aload_n (pc := 7) dX5_furrowCount_7 rfl ?_
    refine z_aload_n (pc := 8) dX5_furrowCount_8 rfl ?_
    refine z_iv1 (pc := 9) dX5_furrowCount_9 kv_X5_96 rfl (by decide) (by decide) rfl rfl ?_
    refine c_X5_findFurrows hS hP hn hL.1 (fun τ t1 t2 t3 t4 t5 => ?_)
    refine z_aload_n (pc := 12) dX5_furrowCount_12 rfl ?_
    refine z_getI (pc := 13) dX5_furrowCount_13 fk_X5_31 rfl (by decide) (by decide) (by decide) ?_
    refine zq_if_ne (pc := 16) (tgt := 23) dX5_furrowCount_16 rfl rfl (fun h16 => ?_) (fun h16 => ?_)
    · skip
      refine z_aload_n (pc := 23) dX5_furrowCount_23 rfl ?_
      refine z_getI (pc := 24) dX5_furrowCount_24 fk_X5_100 rfl (by decide) (by decide) (by decide) ?_
      refine z_iret (pc := 27) dX5_furrowCount_27 rfl ?_
      first
      | (refine h _ _ ?_ t1 ⟨t3, fun _ => t1⟩ t4 t5
         unfold nFur
         first | (rw [if_pos ((LPR_nil t3).mp (by omega))]; rfl) | (rw [if_neg (fun z => by have := (LPR_nil t3).mpr z; omega)]; exact t1.1))
      | (have hfu := hL.2 (fun z => h4 (by rw [z]; rfl))
         refine h _ _ ?_ hfu hL rfl eqX_rf
         unfold nFur
         first | (rw [if_pos ((LPR_nil hL.1).mp (by omega))]; rfl) | (rw [if_neg (fun z => by have := (LPR_nil hL.1).mpr z; omega)]; exact hfu.1))
    · skip
      refine z_iconst (pc := 19) (v := 1) dX5_furrowCount_19 (by decide) ?_
      refine z_goto (pc := 20) (tgt := 27) dX5_furrowCount_20 rfl ?_
      refine z_iret (pc := 27) dX5_furrowCount_27 rfl ?_
      first
      | (refine h _ _ ?_ t1 ⟨t3, fun _ => t1⟩ t4 t5
         unfold nFur
         first | (rw [if_pos ((LPR_nil t3).mp (by omega))]; rfl) | (rw [if_neg (fun z => by have := (LPR_nil t3).mpr z; omega)]; exact t1.1))
      | (have hfu := hL.2 (fun z => h4 (by rw [z]; rfl))
         refine h _ _ ?_ hfu hL rfl eqX_rf
         unfold nFur
         first | (rw [if_pos ((LPR_nil hL.1).mp (by omega))]; rfl) | (rw [if_neg (fun z => by have := (LPR_nil hL.1).mpr z; omega)]; exact hfu.1))

theorem c_X5_giveFurrow {l : Launch} {G : Gx} {d : Nat} {σ : Sg} {Q : Option Value → Sg → Prop} {n k : Nat} {pt : Nat → Pt} {x1 : Int32} (hS : okStand σ n pt) (hP : ∀ i, i < n → ptOk (pt i)) (hn : n ≤ 40) (hL : okLns σ n pt) (hF : okFur σ n pt) (hm : 0 < (prs n pt).length) (hx : x1.toInt = (k : Int)) (hk : (k : Int) < nFur n pt) (h : ∀ τ, isLn τ 10 (kFur n pt k) → (∀ a, a ≠ 10 → τ.1 a = σ.1 a) → τ.2 = σ.2 → Q none τ) : Z l G M_X5_giveFurrow (d + 2) 0 [some (.ref 18), some (.ref 11), some (.int x1), some (.ref 10)] [] σ Q := by
  have hSn := hS.1
  refine z_sub (L' := [some (.ref 18), some (.ref 11), some (.int x1), some (.ref 10), none]) ⟨rfl, rfl, rfl, rfl, trivial⟩ ?_
  refine z_aload_n (pc := 0) dX5_giveFurrow_0 rfl ?_
  refine z_getI (pc := 1) dX5_giveFurrow_1 fk_X5_31 rfl (by decide) (by decide) (by decide) ?_
  refine zq_if_ne (pc := 4) (tgt := 30) dX5_giveFurrow_4 rfl rfl (fun h4 => ?_) (fun h4 => ?_)
  · skip
    have hne : LPR (prs n pt) pt ≠ [] := fun z => h4 ((LPR_nil hL).mpr z)
    have hnf : nFur n pt = ((FUR n pt).length : Int) := if_neg hne
    obtain ⟨z, hz⟩ : ∃ z, (FUR n pt)[k]? = some z := ⟨_, List.getElem?_eq_getElem (by omega)⟩
    obtain ⟨kk, k1, k2⟩ := hF.2 k z hz
    have hkl := (List.getElem?_eq_some_iff.mp k2).1
    have hl7 := LPR_len (P := prs n pt) (pt := pt) (by have := prs_len n pt; omega)
    have hzm := List.mem_of_getElem? k2
    have hzl := hL.2.1 kk z k2
    have hza := lnO_abs hP hzm
    have ekf : kFur n pt k = lnO pt z := by unfold kFur; rw [if_neg hne, List.getD_eq_getElem?_getD, hz]; rfl
    have hful : (FUR n pt).length ≤ 780 := Nat.le_trans (List.length_filter_le _ _) hl7
    refine z_iload_n (pc := 30) dX5_giveFurrow_30 rfl ?_
    refine z_aload_n (pc := 31) dX5_giveFurrow_31 rfl ?_
    refine z_getI (pc := 32) dX5_giveFurrow_32 fk_X5_100 rfl (by decide) (by decide) (by decide) ?_
    refine z_is2 (pc := 35) dX5_giveFurrow_35 ks_X5_111 rfl rfl ?_
    have hf6 := hF.1
    refine c_X10_isBelow (fun qb => ?_) (fun qb => absurd (by omega) qb)
    refine z_if_eq (pc := 38) (tgt := 74) dX5_giveFurrow_38 rfl (fun hc => absurd hc (by decide)) (fun _ => ?_)
    refine z_aload_n (pc := 41) dX5_giveFurrow_41 rfl ?_
    refine z_getR (pc := 42) (t := 22) dX5_giveFurrow_42 fk_X5_21 rfl (by decide) (by decide) (by decide) rfl ?_
    refine z_iload_n (pc := 45) dX5_giveFurrow_45 rfl ?_
    refine z_ialdN (pc := 46) k dX5_giveFurrow_46 rfl (by decide) hx (by show _ < 780; omega) ?_
    refine z_istore (pc := 47) dX5_giveFurrow_47 rfl rfl (by dsimp only [setI, setL, List.set]) ?_
    refine z_aload_n (pc := 49) dX5_giveFurrow_49 rfl ?_
    refine z_aload_n (pc := 50) dX5_giveFurrow_50 rfl ?_
    refine z_getR (pc := 51) (t := 19) dX5_giveFurrow_51 fk_X5_9 rfl (by decide) (by decide) (by decide) rfl ?_
    refine z_iload (pc := 54) dX5_giveFurrow_54 rfl ?_
    refine z_ialdN (pc := 56) kk dX5_giveFurrow_56 rfl (by decide) k1 (by show _ < 780; omega) ?_
    refine z_aload_n (pc := 57) dX5_giveFurrow_57 rfl ?_
    refine z_getR (pc := 58) (t := 20) dX5_giveFurrow_58 fk_X5_15 rfl (by decide) (by decide) (by decide) rfl ?_
    refine z_iload (pc := 61) dX5_giveFurrow_61 rfl ?_
    refine z_ialdN (pc := 63) kk dX5_giveFurrow_63 rfl (by decide) k1 (by show _ < 780; omega) ?_
    refine z_aload_n (pc := 64) dX5_giveFurrow_64 rfl ?_
    refine z_getR (pc := 65) (t := 21) dX5_giveFurrow_65 fk_X5_18 rfl (by decide) (by decide) (by decide) rfl ?_
    refine z_iload (pc := 68) dX5_giveFurrow_68 rfl ?_
    refine z_ialdN (pc := 70) kk dX5_giveFurrow_70 rfl (by decide) k1 (by show _ < 780; omega) ?_
    refine z_iv3 (pc := 71) dX5_giveFurrow_71 kv_X5_103 rfl (by decide) (by decide) rfl rfl ?_
    refine c_bec1 (t := lnO pt z) rfl (by decide) hzl.1 hzl.2.1 hzl.2.2 hza.1 hza.2.1 hza.2.2 (lnO_prim (LPR_mem hzm).2.2) (fun τ hT hrow h2 => ?_)
    refine z_vret (pc := 74) dX5_giveFurrow_74 rfl ?_
    exact h τ (by rw [ekf]; exact hT) hrow h2
  · skip
    refine z_aload_n (pc := 7) dX5_giveFurrow_7 rfl ?_
    refine z_getI (pc := 8) dX5_giveFurrow_8 fk_X5_45 rfl (by decide) (by decide) (by decide) ?_
    refine zq_if_le (pc := 11) (tgt := 30) dX5_giveFurrow_11 rfl rfl (fun h11 => ?_) (fun h11 => ?_)
    · skip
      exfalso; omega
    · skip
      obtain ⟨p0, hp0⟩ := prs_get (pt := pt) (n := n) (j := 0) (by omega)
      have hxy := st_xy hS hp0
      have hok := st_ok hP hp0
      refine z_aload_n (pc := 14) dX5_giveFurrow_14 rfl ?_
      refine z_iconst (pc := 15) (v := 0) dX5_giveFurrow_15 (by decide) ?_
      refine z_iconst (pc := 16) (v := 1) dX5_giveFurrow_16 (by decide) ?_
      refine z_aload_n (pc := 17) dX5_giveFurrow_17 rfl ?_
      refine z_getR (pc := 18) (t := 14) dX5_giveFurrow_18 fk_X5_70 rfl (by decide) (by decide) (by decide) rfl ?_
      refine z_iconst (pc := 21) (v := 0) dX5_giveFurrow_21 (by decide) ?_
      refine z_ialdN (pc := 22) 0 dX5_giveFurrow_22 rfl (by decide) (by decide) (by show _ < 40; omega) ?_
      refine z_inegT (pc := 23) dX5_giveFurrow_23 rfl (by omega) (by omega) (fun v23 e23 => ?_)
      refine z_iv3 (pc := 24) dX5_giveFurrow_24 kv_X5_103 rfl (by decide) (by decide) rfl rfl ?_
      refine c_bec1 (t := (0, 1, -(pt p0).2.1.toInt)) rfl (by decide) rfl rfl (by rw [e23, hxy.2]) (by show (0:Int).natAbs ≤ _; decide) (by show (1:Int).natAbs ≤ _; decide) (by show (-(pt p0).2.1.toInt).natAbs ≤ 1000000; omega) ⟨by show g3 0 1 _ = 1; unfold g3 gg; simp, Or.inr (by show (1:Int) ≠ 0; decide)⟩ (fun τ hT hrow h2 => ?_)
      have ekf : kFur n pt k = (0, 1, -(pt p0).2.1.toInt) := by unfold kFur; rw [if_pos ((LPR_nil hL).mp h4), getD_some hp0]
      refine z_goto (pc := 27) (tgt := 74) dX5_giveFurrow_27 rfl ?_
      refine z_vret (pc := 74) dX5_giveFurrow_74 rfl ?_
      exact h τ (by rw [ekf]; exact hT) hrow h2
