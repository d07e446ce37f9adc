/-- the stores agree outside lo .. hi -/
def eqX (lo hi : Nat) (σ τ : Sg) : Prop := ∀ o, (o < lo ∨ hi < o) → τ.1 o = σ.1 o ∧ τ.2 o = σ.2 o
theorem eqX_rf {lo hi : Nat} {σ : Sg} : eqX lo hi σ σ := fun _ _ => ⟨rfl, rfl⟩
theorem eqX_tr {lo hi : Nat} {σ τ υ : Sg} (h : eqX lo hi σ τ) (g : eqX lo hi τ υ) : eqX lo hi σ υ := fun o ho => ⟨(g o ho).1.trans (h o ho).1, (g o ho).2.trans (h o ho).2⟩
theorem eqX_uI {lo hi : Nat} {σ τ : Sg} {o k : Nat} {v : Int32} (h : eqX lo hi σ τ) (h1 : lo ≤ o) (h2 : o ≤ hi) : eqX lo hi σ (uI τ o k v) := fun a ha => ⟨(uI_row (by omega)).trans (h a ha).1, (h a ha).2⟩
theorem eqX_uJ {lo hi : Nat} {σ τ : Sg} {o k : Nat} {v : Int64} (h : eqX lo hi σ τ) (h1 : lo ≤ o) (h2 : o ≤ hi) : eqX lo hi σ (uJ τ o k v) := fun a ha => ⟨(h a ha).1, (uJ_row (by omega)).trans (h a ha).2⟩
theorem eqX_wide {lo hi lo' hi' : Nat} {σ τ : Sg} (h : eqX lo hi σ τ) (h1 : lo' ≤ lo) (h2 : hi ≤ hi') : eqX lo' hi' σ τ := fun o ho => h o (by omega)
theorem eqX_M {lo hi : Nat} {σ τ : Sg} (h : eqX lo hi σ τ) (h1 : 2 ≤ lo) (h2 : hi ≤ 30) : eqM σ τ := fun o ho => h o (by
  unfold isM at ho
  by_cases e : o = 1
  · omega
  · have e' : (o == 1) = false := by simp [e]
    rw [e'] at ho
    simp only [Bool.false_or, Bool.and_eq_true] at ho
    have := Nat.le_of_ble_eq_true ho.1
    omega)
theorem prs_succ (n : Nat) (pt : Nat → Pt) : prs (n + 1) pt = prs n pt ++ (if (pt n).2.2.2.2 then [] else [n]) := by
  unfold prs
  rw [List.range_succ, List.filter_append]
  congr 1
  cases h : (pt n).2.2.2.2 <;> simp [h]
theorem prs_len (n : Nat) (pt : Nat → Pt) : (prs n pt).length ≤ n := by
  unfold prs
  have := List.length_filter_le (fun i => !(pt i).2.2.2.2) (List.range n)
  simpa using this
theorem prs_at {n j i : Nat} {pt : Nat → Pt} (h : (prs n pt)[j]? = some i) : i < n ∧ (pt i).2.2.2.2 = false := by
  have := List.mem_of_getElem? h
  unfold prs at this
  simp only [List.mem_filter, List.mem_range, Bool.not_eq_true'] at this
  exact this

theorem c_X7_add {l : Launch} {G : Gx} {d : Nat} {σ : Sg} {Q : Option Value → Sg → Prop} {i m : Nat} {x : Int32} (hi : i < 40) (hm : (σ.1 11 7).toInt = (m : Int)) (hm2 : m < 40) (h : ∀ w : Int32, w.toInt = (m : Int) + 1 → Q none (uI (uI (uI (uI (uI (uI (uI σ 12 m x) 13 m (σ.1 (65 + i) 0)) 14 m (σ.1 (65 + i) 1)) 15 m (σ.1 (65 + i) 4)) 16 m (σ.1 (65 + i) 5)) 17 m (σ.1 (65 + i) 6)) 11 7 w)) : Z l G M_X7_add (d) 0 [some (.ref 11), some (.int x), some (.ref (65 + i))] [] σ Q := by
  refine z_sub (L' := [some (.ref 11), some (.int x), some (.ref (65 + i))]) ⟨rfl, rfl, rfl, trivial⟩ ?_
  refine z_aload_n (pc := 0) dX7_add_0 rfl ?_
  refine z_getR (pc := 1) (t := 12) dX7_add_1 fk_X7_9 rfl (by decide) (by decide) (by decide) rfl ?_
  refine z_aload_n (pc := 4) dX7_add_4 rfl ?_
  refine z_getI (pc := 5) dX7_add_5 fk_X7_30 rfl (by decide) (by decide) (by decide) ?_
  refine z_iload_n (pc := 8) dX7_add_8 rfl ?_
  refine z_iastN (pc := 9) m dX7_add_9 rfl (by decide) (by first | exact hm | (simp (disch := omega) only [uI_row, uI_no]; exact hm)) (by show _ < 40; omega) ?_
  refine z_aload_n (pc := 10) dX7_add_10 rfl ?_
  refine z_getR (pc := 11) (t := 13) dX7_add_11 fk_X7_15 rfl (by decide) (by decide) (by decide) rfl ?_
  refine z_aload_n (pc := 14) dX7_add_14 rfl ?_
  refine z_getI (pc := 15) dX7_add_15 fk_X7_30 rfl (by decide) (by decide) (by decide) ?_
  refine z_aload_n (pc := 18) dX7_add_18 rfl ?_
  refine z_getI (pc := 19) dX7_add_19 fk_X7_47 kd_plant (by omega) (by decide) (by decide) ?_
  simp (disch := omega) only [uI_no]
  refine z_iastN (pc := 22) m dX7_add_22 rfl (by decide) (by first | exact hm | (simp (disch := omega) only [uI_row, uI_no]; exact hm)) (by show _ < 40; omega) ?_
  refine z_aload_n (pc := 23) dX7_add_23 rfl ?_
  refine z_getR (pc := 24) (t := 14) dX7_add_24 fk_X7_18 rfl (by decide) (by decide) (by decide) rfl ?_
  refine z_aload_n (pc := 27) dX7_add_27 rfl ?_
  refine z_getI (pc := 28) dX7_add_28 fk_X7_30 rfl (by decide) (by decide) (by decide) ?_
  refine z_aload_n (pc := 31) dX7_add_31 rfl ?_
  refine z_getI (pc := 32) dX7_add_32 fk_X7_49 kd_plant (by omega) (by decide) (by decide) ?_
  simp (disch := omega) only [uI_no]
  refine z_iastN (pc := 35) m dX7_add_35 rfl (by decide) (by first | exact hm | (simp (disch := omega) only [uI_row, uI_no]; exact hm)) (by show _ < 40; omega) ?_
  refine z_aload_n (pc := 36) dX7_add_36 rfl ?_
  refine z_getR (pc := 37) (t := 15) dX7_add_37 fk_X7_21 rfl (by decide) (by decide) (by decide) rfl ?_
  refine z_aload_n (pc := 40) dX7_add_40 rfl ?_
  refine z_getI (pc := 41) dX7_add_41 fk_X7_30 rfl (by decide) (by decide) (by decide) ?_
  refine z_aload_n (pc := 44) dX7_add_44 rfl ?_
  refine z_getI (pc := 45) dX7_add_45 fk_X7_51 kd_plant (by omega) (by decide) (by decide) ?_
  simp (disch := omega) only [uI_no]
  refine z_iastN (pc := 48) m dX7_add_48 rfl (by decide) (by first | exact hm | (simp (disch := omega) only [uI_row, uI_no]; exact hm)) (by show _ < 40; omega) ?_
  refine z_aload_n (pc := 49) dX7_add_49 rfl ?_
  refine z_getR (pc := 50) (t := 16) dX7_add_50 fk_X7_24 rfl (by decide) (by decide) (by decide) rfl ?_
  refine z_aload_n (pc := 53) dX7_add_53 rfl ?_
  refine z_getI (pc := 54) dX7_add_54 fk_X7_30 rfl (by decide) (by decide) (by decide) ?_
  refine z_aload_n (pc := 57) dX7_add_57 rfl ?_
  refine z_getI (pc := 58) dX7_add_58 fk_X7_53 kd_plant (by omega) (by decide) (by decide) ?_
  simp (disch := omega) only [uI_no]
  refine z_iastN (pc := 61) m dX7_add_61 rfl (by decide) (by first | exact hm | (simp (disch := omega) only [uI_row, uI_no]; exact hm)) (by show _ < 40; omega) ?_
  refine z_aload_n (pc := 62) dX7_add_62 rfl ?_
  refine z_getR (pc := 63) (t := 17) dX7_add_63 fk_X7_27 rfl (by decide) (by decide) (by decide) rfl ?_
  refine z_aload_n (pc := 66) dX7_add_66 rfl ?_
  refine z_getI (pc := 67) dX7_add_67 fk_X7_30 rfl (by decide) (by decide) (by decide) ?_
  refine z_aload_n (pc := 70) dX7_add_70 rfl ?_
  refine z_getI (pc := 71) dX7_add_71 fk_X7_55 kd_plant (by omega) (by decide) (by decide) ?_
  simp (disch := omega) only [uI_no]
  refine z_iastN (pc := 74) m dX7_add_74 rfl (by decide) (by first | exact hm | (simp (disch := omega) only [uI_row, uI_no]; exact hm)) (by show _ < 40; omega) ?_
  refine z_aload_n (pc := 75) dX7_add_75 rfl ?_
  refine z_dup (pc := 76) dX7_add_76 rfl ?_
  refine z_getI (pc := 77) dX7_add_77 fk_X7_30 rfl (by decide) (by decide) (by decide) ?_
  simp (disch := omega) only [uI_no]
  refine z_iconst (pc := 80) (v := 1) dX7_add_80 (by decide) ?_
  refine z_iaddT (pc := 81) (cy := 1) dX7_add_81 rfl (by decide) (by omega) (by omega) (fun v81 e81 => ?_)
  refine z_putI (pc := 82) dX7_add_82 fk_X7_30 rfl (by decide) (by decide) (by decide) ?_
  refine z_vret (pc := 85) dX7_add_85 rfl ?_
  exact h _ (by omega)

theorem away_of {b : Bool} {v : Int32} (h : v = if b then 0 else 1) (h0 : v.toInt = 0) : b = true := by
  cases b with
  | true => rfl
  | false => rw [h] at h0; exact absurd h0 (by decide)
theorem there_of {b : Bool} {v : Int32} (h : v = if b then 0 else 1) (h0 : v.toInt ≠ 0) : b = false := by
  cases b with
  | false => rfl
  | true => rw [h] at h0; exact absurd rfl h0
theorem okStand_away {σ : Sg} {i : Nat} {pt : Nat → Pt} (h : okStand σ i pt) (ha : (pt i).2.2.2.2 = true) : okStand σ (i + 1) pt := by
  unfold okStand
  rw [prs_succ, if_pos ha, List.append_nil]
  exact h
theorem okStand_add {σ : Sg} {i m : Nat} {pt : Nat → Pt} {x w : Int32} (h : okStand σ i pt) (ha : (pt i).2.2.2.2 = false) (hm : (prs i pt).length = m) (hx : x.toInt = (i : Int)) (hw : w.toInt = (m : Int) + 1) (hp : plC σ (65 + i) (pt i)) : okStand (uI (uI (uI (uI (uI (uI (uI σ 12 m x) 13 m (σ.1 (65 + i) 0)) 14 m (σ.1 (65 + i) 1)) 15 m (σ.1 (65 + i) 4)) 16 m (σ.1 (65 + i) 5)) 17 m (σ.1 (65 + i) 6)) 11 7 w) (i + 1) pt := by
  unfold okStand
  rw [prs_succ, if_neg (by rw [ha]; decide)]
  refine ⟨?_, fun j t ht => ?_⟩
  · rw [uI_eq]; simp; omega
  · by_cases hj : j < m
    · rw [List.getElem?_append_left (by omega)] at ht
      have := h.2 j t ht
      simp (disch := omega) only [uI_row, uI_nk]
      exact this
    · have hjm : j = m := by
        have := (List.getElem?_eq_some_iff.mp ht).1
        simp at this; omega
      subst hjm
      rw [List.getElem?_append_right (by omega)] at ht
      simp [hm] at ht
      subst ht
      obtain ⟨p1, p2, p3, p4, p5, p6, p7, p8⟩ := hp
      simp (disch := omega) only [uI_row, uI_nk, uI_eq]
      exact ⟨hx, p1, p2, p5, p6, p7⟩

theorem c_gather_loop {l : Launch} {G : Gx} {d : Nat} {σ : Sg} {Q : Option Value → Sg → Prop} {n : Nat} {pt : Nat → Pt} {x2 : Int32} (hn : n ≤ 40) (hx2 : x2.toInt = (n : Int)) (hR : ∀ i, i < n → plC σ (65 + i) (pt i)) (h : ∀ τ, okStand τ n pt → τ.1 11 6 = 1 → eqX 11 17 σ τ → Q none τ) : ∀ (k i : Nat) (x : Int32) (τ : Sg), x.toInt = (i : Int) → i ≤ n → n - i < k → okStand τ i pt → eqX 11 17 σ τ → Z l G M_X7_gather (d + 1) 7 [some (.ref 11), some (.ref 3), some (.int x2), some (.int x)] [] τ Q := by
  intro k
  induction k with
  | zero => intro i x τ hx hi hk; omega
  | succ k ih =>
  intro i x τ hx hi hk hS hE
  refine z_iload_n (pc := 7) dX7_gather_7 rfl ?_
  refine z_iload_n (pc := 8) dX7_gather_8 rfl ?_
  refine zq_icmp_ge (pc := 9) (tgt := 41) dX7_gather_9 rfl rfl rfl (fun h9 => ?_) (fun h9 => ?_)
  · skip
    refine z_aload_n (pc := 41) dX7_gather_41 rfl ?_
    refine z_iconst (pc := 42) (v := 1) dX7_gather_42 (by decide) ?_
    refine z_putB (pc := 43) dX7_gather_43 fk_X7_44 rfl (by decide) (by decide) (by decide) (by decide) ?_
    refine z_vret (pc := 46) dX7_gather_46 rfl ?_
    have hin : i = n := by omega
    subst hin
    refine h _ ?_ (uI_eq _ _ _ _) (eqX_uI hE (by omega) (by omega))
    unfold okStand at hS ⊢
    simp (disch := omega) only [uI_row, uI_nk]
    exact hS
  · skip
    refine z_iload_n (pc := 12) dX7_gather_12 rfl ?_
    refine z_bipush (pc := 13) (v := 40) dX7_gather_13 (by decide) ?_
    refine zq_icmp_ge (pc := 15) (cy := 40) (tgt := 41) dX7_gather_15 rfl rfl (by decide) (fun h15 => ?_) (fun h15 => ?_)
    · skip
      refine z_aload_n (pc := 41) dX7_gather_41 rfl ?_
      refine z_iconst (pc := 42) (v := 1) dX7_gather_42 (by decide) ?_
      refine z_putB (pc := 43) dX7_gather_43 fk_X7_44 rfl (by decide) (by decide) (by decide) (by decide) ?_
      refine z_vret (pc := 46) dX7_gather_46 rfl ?_
      have hin : i = n := by omega
      subst hin
      refine h _ ?_ (uI_eq _ _ _ _) (eqX_uI hE (by omega) (by omega))
      unfold okStand at hS ⊢
      simp (disch := omega) only [uI_row, uI_nk]
      exact hS
    · skip
      have hp : plC τ (65 + i) (pt i) := plC_cong (hE (65 + i) (by omega)).1 (hR i (by omega))
      have h7 := hp.2.2.2.2.2.2.2
      refine z_aload_n (pc := 18) dX7_gather_18 rfl ?_
      refine z_iload_n (pc := 19) dX7_gather_19 rfl ?_
      refine z_aaldN (pc := 20) i (t := (65 + i)) dX7_gather_20 (Or.inr rfl) (by decide) hx (by show _ < 40; omega) rfl ?_
      refine z_getI (pc := 21) dX7_gather_21 fk_X7_34 kd_plant (by omega) (by decide) (by decide) ?_
      refine zq_if_eq (pc := 24) (tgt := 35) dX7_gather_24 rfl rfl (fun h24 => ?_) (fun h24 => ?_)
      · skip
        
        refine z_iincT (pc := 35) dX7_gather_35 rfl rfl (by decide) (by decide) (by omega) (by omega) rfl rfl (fun v => by dsimp only [setI, setL, List.set]) (fun v35 e35 => ?_)
        refine z_goto (pc := 38) (tgt := 7) dX7_gather_38 rfl ?_
        first | exact ih (i + 1) v35 _ (by omega) (by omega) (by omega) hS2 hE2 | exact ih (i + 1) v35 _ (by omega) (by omega) (by omega) (okStand_away hS (away_of h7 h24)) hE
      · skip
        have ha := there_of h7 h24
        have hpl := prs_len i pt
        refine z_aload_n (pc := 27) dX7_gather_27 rfl ?_
        refine z_iload_n (pc := 28) dX7_gather_28 rfl ?_
        refine z_aload_n (pc := 29) dX7_gather_29 rfl ?_
        refine z_iload_n (pc := 30) dX7_gather_30 rfl ?_
        refine z_aaldN (pc := 31) i (t := (65 + i)) dX7_gather_31 (Or.inr rfl) (by decide) hx (by show _ < 40; omega) rfl ?_
        refine z_iv2 (pc := 32) dX7_gather_32 kv_X7_40 rfl (by decide) (by decide) rfl rfl ?_
        refine c_X7_add (m := (prs i pt).length) (by omega) hS.1 (by omega) (fun w hw => ?_)
        have hS2 := okStand_add hS ha rfl hx hw hp
        have hE2 : eqX 11 17 σ _ := eqX_uI (eqX_uI (eqX_uI (eqX_uI (eqX_uI (eqX_uI (eqX_uI hE (o := 12) (k := (prs i pt).length) (v := x) (by omega) (by omega)) (o := 13) (k := (prs i pt).length) (v := τ.1 (65 + i) 0) (by omega) (by omega)) (o := 14) (k := (prs i pt).length) (v := τ.1 (65 + i) 1) (by omega) (by omega)) (o := 15) (k := (prs i pt).length) (v := τ.1 (65 + i) 4) (by omega) (by omega)) (o := 16) (k := (prs i pt).length) (v := τ.1 (65 + i) 5) (by omega) (by omega)) (o := 17) (k := (prs i pt).length) (v := τ.1 (65 + i) 6) (by omega) (by omega)) (o := 11) (k := 7) (v := w) (by omega) (by omega)
        
        refine z_iincT (pc := 35) dX7_gather_35 rfl rfl (by decide) (by decide) (by omega) (by omega) rfl rfl (fun v => by dsimp only [setI, setL, List.set]) (fun v35 e35 => ?_)
        refine z_goto (pc := 38) (tgt := 7) dX7_gather_38 rfl ?_
        first | exact ih (i + 1) v35 _ (by omega) (by omega) (by omega) hS2 hE2 | exact ih (i + 1) v35 _ (by omega) (by omega) (by omega) (okStand_away hS (away_of h7 h24)) hE

theorem c_X7_gather {l : Launch} {G : Gx} {d : Nat} {σ : Sg} {Q : Option Value → Sg → Prop} {n : Nat} {pt : Nat → Pt} {x2 : Int32} (hn : n ≤ 40) (hx2 : x2.toInt = (n : Int)) (hR : ∀ i, i < n → plC σ (65 + i) (pt i)) (h : ∀ τ, okStand τ n pt → τ.1 11 6 = 1 → eqX 11 17 σ τ → Q none τ) : Z l G M_X7_gather (d + 1) 0 [some (.ref 11), some (.ref 3), some (.int x2)] [] σ Q := by
  refine z_sub (L' := [some (.ref 11), some (.ref 3), some (.int x2), none]) ⟨rfl, rfl, rfl, trivial⟩ ?_
  refine z_aload_n (pc := 0) dX7_gather_0 rfl ?_
  refine z_iconst (pc := 1) (v := 0) dX7_gather_1 (by decide) ?_
  refine z_putI (pc := 2) dX7_gather_2 fk_X7_30 rfl (by decide) (by decide) (by decide) ?_
  refine z_iconst (pc := 5) (v := 0) dX7_gather_5 (by decide) ?_
  refine z_istore_n (pc := 6) dX7_gather_6 rfl rfl (by dsimp only [setI, setL, List.set]) ?_
  exact c_gather_loop hn hx2 hR h (n + 1) 0 0 _ (by decide) (by omega) (by omega) ⟨by rw [uI_eq]; rfl, fun j i hj => by simp [prs] at hj⟩ (eqX_uI eqX_rf (by omega) (by omega))

theorem c_X10_gathered {l : Launch} {G : Gx} {d : Nat} {σ : Sg} {Q : Option Value → Sg → Prop} {n : Nat} {pt : Nat → Pt} (hn : n ≤ 40) (hR : rcP σ n pt) (hc : σ.1 11 6 ≠ 0 → okStand σ n pt) (h : ∀ τ, okStand τ n pt → τ.1 11 6 ≠ 0 → eqX 11 17 σ τ → Q (some (.ref 11)) τ) : Z l G M_X10_gathered (d + 2) 0 [some (.ref 0)] [] σ Q := by
  refine z_sub (L' := [some (.ref 0)]) ⟨rfl, trivial⟩ ?_
  refine z_aload_n (pc := 0) dX10_gathered_0 rfl ?_
  refine z_getR (pc := 1) (t := 11) dX10_gathered_1 fk_X10_52 rfl (by decide) (by decide) (by decide) rfl ?_
  refine z_getI (pc := 4) dX10_gathered_4 fk_X10_314 rfl (by decide) (by decide) (by decide) ?_
  refine zq_if_ne (pc := 7) (tgt := 25) dX10_gathered_7 rfl rfl (fun h7 => ?_) (fun h7 => ?_)
  · skip
    refine z_aload_n (pc := 25) dX10_gathered_25 rfl ?_
    refine z_getR (pc := 26) (t := 11) dX10_gathered_26 fk_X10_52 rfl (by decide) (by decide) (by decide) rfl ?_
    refine z_aret (pc := 29) dX10_gathered_29 rfl (by first | exact Or.inl ⟨_, rfl⟩ | exact Or.inr ⟨_, rfl⟩) ?_
    first | exact h _ hS (by rw [h1]; decide) hE | exact h _ (hc (fun z => h7 (by rw [z]; rfl))) (fun z => h7 (by rw [z]; rfl)) eqX_rf
  · skip
    refine z_aload_n (pc := 10) dX10_gathered_10 rfl ?_
    refine z_getR (pc := 11) (t := 11) dX10_gathered_11 fk_X10_52 rfl (by decide) (by decide) (by decide) rfl ?_
    refine z_aload_n (pc := 14) dX10_gathered_14 rfl ?_
    refine z_getR (pc := 15) (t := 3) dX10_gathered_15 fk_X10_18 rfl (by decide) (by decide) (by decide) rfl ?_
    refine z_aload_n (pc := 18) dX10_gathered_18 rfl ?_
    refine z_getI (pc := 19) dX10_gathered_19 fk_X10_137 rfl (by decide) (by decide) (by decide) ?_
    refine z_iv2 (pc := 22) dX10_gathered_22 kv_X10_317 rfl (by decide) (by decide) rfl rfl ?_
    refine c_X7_gather hn hR.1 hR.2 (fun τ hS h1 hE => ?_)
    refine z_aload_n (pc := 25) dX10_gathered_25 rfl ?_
    refine z_getR (pc := 26) (t := 11) dX10_gathered_26 fk_X10_52 rfl (by decide) (by decide) (by decide) rfl ?_
    refine z_aret (pc := 29) dX10_gathered_29 rfl (by first | exact Or.inl ⟨_, rfl⟩ | exact Or.inr ⟨_, rfl⟩) ?_
    first | exact h _ hS (by rw [h1]; decide) hE | exact h _ (hc (fun z => h7 (by rw [z]; rfl))) (fun z => h7 (by rw [z]; rfl)) eqX_rf
