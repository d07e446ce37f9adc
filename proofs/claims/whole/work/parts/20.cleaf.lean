theorem c_X10_isBelow {l : Launch} {G : Gx} {d : Nat} {σ : Sg} {Q : Option Value → Sg → Prop} {a b : Int32} (ht : 0 ≤ a.toInt ∧ a.toInt < b.toInt → Q (some (.int 1)) σ) (hf : ¬ (0 ≤ a.toInt ∧ a.toInt < b.toInt) → Q (some (.int 0)) σ) : Z l G M_X10_isBelow (d) 0 [some (.int a), some (.int b)] [] σ Q := by
  refine z_sub (L' := [some (.int a), some (.int b)]) ⟨rfl, rfl, trivial⟩ ?_
  refine z_iload_n (pc := 0) dX10_isBelow_0 rfl ?_
  refine zq_if_lt (pc := 1) (tgt := 13) dX10_isBelow_1 rfl rfl (fun h1 => ?_) (fun h1 => ?_)
  · skip
    refine z_iconst (pc := 13) (v := 0) dX10_isBelow_13 (by decide) ?_
    refine z_zret (pc := 14) dX10_isBelow_14 rfl (by decide) ?_
    exact hf (by omega)
  · skip
    refine z_iload_n (pc := 4) dX10_isBelow_4 rfl ?_
    refine z_iload_n (pc := 5) dX10_isBelow_5 rfl ?_
    refine zq_icmp_ge (pc := 6) (tgt := 13) dX10_isBelow_6 rfl rfl rfl (fun h6 => ?_) (fun h6 => ?_)
    · skip
      refine z_iconst (pc := 13) (v := 0) dX10_isBelow_13 (by decide) ?_
      refine z_zret (pc := 14) dX10_isBelow_14 rfl (by decide) ?_
      exact hf (by omega)
    · skip
      refine z_iconst (pc := 9) (v := 1) dX10_isBelow_9 (by decide) ?_
      refine z_goto (pc := 10) (tgt := 14) dX10_isBelow_10 rfl ?_
      refine z_zret (pc := 14) dX10_isBelow_14 rfl (by decide) ?_
      exact ht (by omega)

theorem c_X10_isWithin {l : Launch} {G : Gx} {d : Nat} {σ : Sg} {Q : Option Value → Sg → Prop} {a b : Int64} (hb : 0 ≤ b.toInt) (ht : -b.toInt ≤ a.toInt ∧ a.toInt ≤ b.toInt → Q (some (.int 1)) σ) (hf : ¬ (-b.toInt ≤ a.toInt ∧ a.toInt ≤ b.toInt) → Q (some (.int 0)) σ) : Z l G M_X10_isWithin (d) 0 [some (.long a), none, some (.long b), none] [] σ Q := by
  have hb2 := b.toInt_lt
  refine z_sub (L' := [some (.long a), none, some (.long b), none]) ⟨rfl, rfl, trivial⟩ ?_
  refine z_lload_n (pc := 0) dX10_isWithin_0 rfl ?_
  refine z_lload_n (pc := 1) dX10_isWithin_1 rfl ?_
  refine z_lnegT (pc := 2) dX10_isWithin_2 rfl (by omega) (by omega) (fun v2 e2 => ?_)
  refine zq_lc_lt (pc := 3) (tgt := 17) dX10_isWithin_3 dX10_isWithin_4 rfl rfl rfl (fun h3 => ?_) (fun h3 => ?_)
  · skip
    refine z_iconst (pc := 17) (v := 0) dX10_isWithin_17 (by decide) ?_
    refine z_zret (pc := 18) dX10_isWithin_18 rfl (by decide) ?_
    exact hf (by omega)
  · skip
    refine z_lload_n (pc := 7) dX10_isWithin_7 rfl ?_
    refine z_lload_n (pc := 8) dX10_isWithin_8 rfl ?_
    refine zq_lc_gt (pc := 9) (tgt := 17) dX10_isWithin_9 dX10_isWithin_10 rfl rfl rfl (fun h9 => ?_) (fun h9 => ?_)
    · skip
      refine z_iconst (pc := 17) (v := 0) dX10_isWithin_17 (by decide) ?_
      refine z_zret (pc := 18) dX10_isWithin_18 rfl (by decide) ?_
      exact hf (by omega)
    · skip
      refine z_iconst (pc := 13) (v := 1) dX10_isWithin_13 (by decide) ?_
      refine z_goto (pc := 14) (tgt := 18) dX10_isWithin_14 rfl ?_
      refine z_zret (pc := 18) dX10_isWithin_18 rfl (by decide) ?_
      exact ht (by omega)

theorem c_X10_isInField {l : Launch} {G : Gx} {d : Nat} {σ : Sg} {Q : Option Value → Sg → Prop} {a : Int64} (ht : -300 ≤ a.toInt ∧ a.toInt ≤ 300 → Q (some (.int 1)) σ) (hf : ¬ (-300 ≤ a.toInt ∧ a.toInt ≤ 300) → Q (some (.int 0)) σ) : Z l G M_X10_isInField (d + 1) 0 [some (.long a), none] [] σ Q := by
  refine z_sub (L' := [some (.long a), none]) ⟨rfl, trivial⟩ ?_
  refine z_lload_n (pc := 0) dX10_isInField_0 rfl ?_
  refine z_ldc2 (pc := 1) dX10_isInField_1 kc_X10_327 ?_
  refine z_is2 (pc := 4) dX10_isInField_4 ks_X10_225 rfl rfl ?_
  refine c_X10_isWithin (by decide) (fun q => ?_) (fun q => ?_)
  · skip
    refine z_zret (pc := 7) dX10_isInField_7 rfl (by decide) ?_
    exact ht q
  · skip
    refine z_zret (pc := 7) dX10_isInField_7 rfl (by decide) ?_
    exact hf q

theorem c_X10_isBed {l : Launch} {G : Gx} {d : Nat} {σ : Sg} {Q : Option Value → Sg → Prop} {a : Int32} (ht : 0 ≤ a.toInt ∧ a.toInt < 8 → Q (some (.int 1)) σ) (hf : ¬ (0 ≤ a.toInt ∧ a.toInt < 8) → Q (some (.int 0)) σ) : Z l G M_X10_isBed (d + 1) 0 [some (.int a)] [] σ Q := by
  refine z_sub (L' := [some (.int a)]) ⟨rfl, trivial⟩ ?_
  refine z_iload_n (pc := 0) dX10_isBed_0 rfl ?_
  refine z_bipush (pc := 1) (v := 8) dX10_isBed_1 (by decide) ?_
  refine z_is2 (pc := 3) dX10_isBed_3 ks_X10_88 rfl rfl ?_
  refine c_X10_isBelow (fun q => ?_) (fun q => ?_)
  · skip
    refine z_zret (pc := 6) dX10_isBed_6 rfl (by decide) ?_
    exact ht q
  · skip
    refine z_zret (pc := 6) dX10_isBed_6 rfl (by decide) ?_
    exact hf q

theorem c_X10_found {l : Launch} {G : Gx} {d : Nat} {σ : Sg} {Q : Option Value → Sg → Prop} {a : Int32} (h0 : 0 ≤ a.toInt) (h1 : a.toInt < 10) (h : ∀ r : Int32, r.toInt = -1000010 - a.toInt → Q (some (.int r)) (uI σ 0 12 a)) : Z l G M_X10_found (d) 0 [some (.ref 0), some (.int a)] [] σ Q := by
  refine z_sub (L' := [some (.ref 0), some (.int a)]) ⟨rfl, rfl, trivial⟩ ?_
  refine z_aload_n (pc := 0) dX10_found_0 rfl ?_
  refine z_iload_n (pc := 1) dX10_found_1 rfl ?_
  refine z_putI (pc := 2) dX10_found_2 fk_X10_121 rfl (by decide) (by decide) (by decide) ?_
  refine z_ldcw (pc := 5) dX10_found_5 kc_X10_313 ?_
  refine z_iload_n (pc := 8) dX10_found_8 rfl ?_
  refine z_isubT (pc := 9) (cx := -1000010) dX10_found_9 (by decide) rfl (by omega) (by omega) (fun v9 e9 => ?_)
  refine z_iret (pc := 10) dX10_found_10 rfl ?_
  exact h _ (by assumption)

theorem c_X10_done {l : Launch} {G : Gx} {d : Nat} {σ : Sg} {Q : Option Value → Sg → Prop} {a : Int32} (h : Q (some (.int a)) (uI σ 0 12 0)) : Z l G M_X10_done (d) 0 [some (.ref 0), some (.int a)] [] σ Q := by
  refine z_sub (L' := [some (.ref 0), some (.int a)]) ⟨rfl, rfl, trivial⟩ ?_
  refine z_aload_n (pc := 0) dX10_done_0 rfl ?_
  refine z_iconst (pc := 1) (v := 0) dX10_done_1 (by decide) ?_
  refine z_putI (pc := 2) dX10_done_2 fk_X10_121 rfl (by decide) (by decide) (by decide) ?_
  refine z_iload_n (pc := 5) dX10_done_5 rfl ?_
  refine z_iret (pc := 6) dX10_done_6 rfl ?_
  exact h

theorem c_X10_isGiven {l : Launch} {G : Gx} {d : Nat} {σ : Sg} {Q : Option Value → Sg → Prop} {a : Int32} (ht : 0 ≤ a.toInt ∧ a.toInt < (σ.1 0 11).toInt → Q (some (.int 1)) σ) (hf : ¬ (0 ≤ a.toInt ∧ a.toInt < (σ.1 0 11).toInt) → Q (some (.int 0)) σ) : Z l G M_X10_isGiven (d + 1) 0 [some (.ref 0), some (.int a)] [] σ Q := by
  refine z_sub (L' := [some (.ref 0), some (.int a)]) ⟨rfl, rfl, trivial⟩ ?_
  refine z_iload_n (pc := 0) dX10_isGiven_0 rfl ?_
  refine z_aload_n (pc := 1) dX10_isGiven_1 rfl ?_
  refine z_getI (pc := 2) dX10_isGiven_2 fk_X10_137 rfl (by decide) (by decide) (by decide) ?_
  refine z_is2 (pc := 5) dX10_isGiven_5 ks_X10_88 rfl rfl ?_
  refine c_X10_isBelow (fun q => ?_) (fun q => ?_)
  · skip
    refine z_zret (pc := 8) dX10_isGiven_8 rfl (by decide) ?_
    exact ht q
  · skip
    refine z_zret (pc := 8) dX10_isGiven_8 rfl (by decide) ?_
    exact hf q

theorem c_X0_has {l : Launch} {G : Gx} {d : Nat} {σ : Sg} {Q : Option Value → Sg → Prop} {o : Nat} {a n : Int32} (ho : kd o = 0) (hn : o < 105) (hs : 0 ≤ (σ.1 o 3).toInt) (ht : 0 ≤ a.toInt ∧ 0 ≤ n.toInt ∧ a.toInt + n.toInt ≤ (σ.1 o 3).toInt → Q (some (.int 1)) σ) (hf : ¬ (0 ≤ a.toInt ∧ 0 ≤ n.toInt ∧ a.toInt + n.toInt ≤ (σ.1 o 3).toInt) → Q (some (.int 0)) σ) : Z l G M_X0_has (d) 0 [some (.ref o), some (.int a), some (.int n)] [] σ Q := by
  have hs2 := (σ.1 o 3).toInt_lt
  refine z_sub (L' := [some (.ref o), some (.int a), some (.int n)]) ⟨rfl, rfl, rfl, trivial⟩ ?_
  refine z_iload_n (pc := 0) dX0_has_0 rfl ?_
  refine zq_if_lt (pc := 1) (tgt := 30) dX0_has_1 rfl rfl (fun h1 => ?_) (fun h1 => ?_)
  · skip
    refine z_iconst (pc := 30) (v := 0) dX0_has_30 (by decide) ?_
    refine z_zret (pc := 31) dX0_has_31 rfl (by decide) ?_
    exact hf (by omega)
  · skip
    refine z_iload_n (pc := 4) dX0_has_4 rfl ?_
    refine zq_if_lt (pc := 5) (tgt := 30) dX0_has_5 rfl rfl (fun h5 => ?_) (fun h5 => ?_)
    · skip
      refine z_iconst (pc := 30) (v := 0) dX0_has_30 (by decide) ?_
      refine z_zret (pc := 31) dX0_has_31 rfl (by decide) ?_
      exact hf (by omega)
    · skip
      refine z_iload_n (pc := 8) dX0_has_8 rfl ?_
      refine z_aload_n (pc := 9) dX0_has_9 rfl ?_
      refine z_getI (pc := 10) dX0_has_10 fk_X0_23 ho hn (by decide) (by decide) ?_
      refine zq_icmp_gt (pc := 13) (tgt := 30) dX0_has_13 rfl rfl rfl (fun h13 => ?_) (fun h13 => ?_)
      · skip
        refine z_iconst (pc := 30) (v := 0) dX0_has_30 (by decide) ?_
        refine z_zret (pc := 31) dX0_has_31 rfl (by decide) ?_
        exact hf (by omega)
      · skip
        refine z_iload_n (pc := 16) dX0_has_16 rfl ?_
        refine z_aload_n (pc := 17) dX0_has_17 rfl ?_
        refine z_getI (pc := 18) dX0_has_18 fk_X0_23 ho hn (by decide) (by decide) ?_
        refine z_iload_n (pc := 21) dX0_has_21 rfl ?_
        refine z_isubT (pc := 22) dX0_has_22 rfl rfl (by omega) (by omega) (fun v22 e22 => ?_)
        refine zq_icmp_gt (pc := 23) (tgt := 30) dX0_has_23 rfl rfl rfl (fun h23 => ?_) (fun h23 => ?_)
        · skip
          refine z_iconst (pc := 30) (v := 0) dX0_has_30 (by decide) ?_
          refine z_zret (pc := 31) dX0_has_31 rfl (by decide) ?_
          exact hf (by omega)
        · skip
          refine z_iconst (pc := 26) (v := 1) dX0_has_26 (by decide) ?_
          refine z_goto (pc := 27) (tgt := 31) dX0_has_27 rfl ?_
          refine z_zret (pc := 31) dX0_has_31 rfl (by decide) ?_
          exact ht (by omega)

/-- a long's lowest bits, as many as a lane has -/
def nrw (lane : Int) (v : Int64) : Int64 := if lane = 0 then v.toInt32.toInt16.toInt32.toInt64 else if lane = 1 then v.toInt32.toInt64 else v

theorem c_X0_narrowed {l : Launch} {G : Gx} {d : Nat} {σ : Sg} {Q : Option Value → Sg → Prop} {o : Nat} {v : Int64} (ho : kd o = 0) (hn : o < 105) (h : Q (some (.long (nrw (σ.1 o 2).toInt v))) σ) : Z l G M_X0_narrowed (d) 0 [some (.ref o), some (.long v), none] [] σ Q := by
  refine z_sub (L' := [some (.ref o), some (.long v), none]) ⟨rfl, rfl, trivial⟩ ?_
  refine z_aload_n (pc := 0) dX0_narrowed_0 rfl ?_
  refine z_getI (pc := 1) dX0_narrowed_1 fk_X0_19 ho hn (by decide) (by decide) ?_
  refine zq_if_ne (pc := 4) (tgt := 12) dX0_narrowed_4 rfl rfl (fun h4 => ?_) (fun h4 => ?_)
  · skip
    refine z_aload_n (pc := 12) dX0_narrowed_12 rfl ?_
    refine z_getI (pc := 13) dX0_narrowed_13 fk_X0_19 ho hn (by decide) (by decide) ?_
    refine z_iconst (pc := 16) (v := 1) dX0_narrowed_16 (by decide) ?_
    refine zq_icmp_ne (pc := 17) (cy := 1) (tgt := 26) dX0_narrowed_17 rfl rfl (by decide) (fun h17 => ?_) (fun h17 => ?_)
    · skip
      refine z_lload_n (pc := 26) dX0_narrowed_26 rfl ?_
      refine z_lret (pc := 27) dX0_narrowed_27 rfl ?_
      first | (rw [show nrw (σ.1 o 2).toInt v = v.toInt32.toInt16.toInt32.toInt64 from if_pos (by omega)] at h; exact h) | (rw [show nrw (σ.1 o 2).toInt v = v.toInt32.toInt64 from (if_neg (by omega)).trans (if_pos (by omega))] at h; exact h) | (rw [show nrw (σ.1 o 2).toInt v = v from (if_neg (by omega)).trans (if_neg (by omega))] at h; exact h)
    · skip
      refine z_lload_n (pc := 20) dX0_narrowed_20 rfl ?_
      refine z_l2i (pc := 21) dX0_narrowed_21 ?_
      refine z_i2l (pc := 22) dX0_narrowed_22 ?_
      refine z_goto (pc := 23) (tgt := 27) dX0_narrowed_23 rfl ?_
      refine z_lret (pc := 27) dX0_narrowed_27 rfl ?_
      first | (rw [show nrw (σ.1 o 2).toInt v = v.toInt32.toInt16.toInt32.toInt64 from if_pos (by omega)] at h; exact h) | (rw [show nrw (σ.1 o 2).toInt v = v.toInt32.toInt64 from (if_neg (by omega)).trans (if_pos (by omega))] at h; exact h) | (rw [show nrw (σ.1 o 2).toInt v = v from (if_neg (by omega)).trans (if_neg (by omega))] at h; exact h)
  · skip
    refine z_lload_n (pc := 7) dX0_narrowed_7 rfl ?_
    refine z_l2i (pc := 8) dX0_narrowed_8 ?_
    refine z_i2s (pc := 9) dX0_narrowed_9 ?_
    refine z_i2l (pc := 10) dX0_narrowed_10 ?_
    refine z_lret (pc := 11) dX0_narrowed_11 rfl ?_
    first | (rw [show nrw (σ.1 o 2).toInt v = v.toInt32.toInt16.toInt32.toInt64 from if_pos (by omega)] at h; exact h) | (rw [show nrw (σ.1 o 2).toInt v = v.toInt32.toInt64 from (if_neg (by omega)).trans (if_pos (by omega))] at h; exact h) | (rw [show nrw (σ.1 o 2).toInt v = v from (if_neg (by omega)).trans (if_neg (by omega))] at h; exact h)

/-- the first n longs of object o become 0 -/
def zJ (σ : Sg) (o n : Nat) : Sg := (σ.1, fun a b => if a = o then (if b < n then 0 else σ.2 a b) else σ.2 a b)
theorem zJ_step (σ : Sg) (o n : Nat) : uJ (zJ σ o n) o n 0 = zJ σ o (n + 1) := by
  unfold uJ zJ
  refine Prod.ext rfl ?_
  funext a b
  dsimp only
  by_cases h : a = o
  · simp only [h, if_true]
    by_cases h1 : b = n
    · subst h1; simp
    · by_cases h2 : b < n
      · simp [h1, h2, Nat.lt_succ_of_lt h2]
      · have : ¬ b < n + 1 := by omega
        simp [h1, h2, this]
  · simp [h]
theorem zJ_0 (σ : Sg) (o : Nat) : zJ σ o 0 = σ := by
  unfold zJ
  refine Prod.ext rfl ?_
  funext a b
  simp


theorem c_X0_lay_loop {l : Launch} {G : Gx} {d : Nat} {σ : Sg} {Q : Option Value → Sg → Prop} {b : Nat} {a n : Int32} (hb : b < 8) (h : Q none (zJ σ (57 + b) 100)) : ∀ (k i : Nat) (x : Int32), x.toInt = (i : Int) → i ≤ 100 → 100 - i < k → Z l G M_X0_lay d 17 [some (.ref (49 + b)), some (.int a), some (.int n), some (.int x)] [] (zJ σ (57 + b) i) Q := by
  intro k
  induction k with
  | zero => intro i x hx hi hk; omega
  | succ k ih =>
  intro i x hx hi hk
  refine z_iload_n (pc := 17) dX0_lay_17 rfl ?_
  refine z_bipush (pc := 18) (v := 100) dX0_lay_18 (by decide) ?_
  refine zq_icmp_ge (pc := 20) (cy := 100) (tgt := 36) dX0_lay_20 rfl rfl (by decide) (fun h20 => ?_) (fun h20 => ?_)
  · skip
    refine z_vret (pc := 36) dX0_lay_36 rfl ?_
    rw [show i = 100 by omega]; exact h
  · skip
    refine z_aload_n (pc := 23) dX0_lay_23 rfl ?_
    refine z_getR (pc := 24) (t := (57 + b)) dX0_lay_24 fk_X0_9 (kd_bed hb) (by omega) (by decide) (by decide) (rfo_bed hb) ?_
    refine z_iload_n (pc := 27) dX0_lay_27 rfl ?_
    refine z_lconst (pc := 28) (v := 0) dX0_lay_28 (by decide) ?_
    refine z_lastN (pc := 29) i dX0_lay_29 (kd_items hb) (by omega) hx (by rw [ln_items hb]; omega) ?_
    refine z_iincT (pc := 30) dX0_lay_30 rfl rfl (by decide) (by decide) (by omega) (by omega) rfl rfl (fun v => by dsimp only [setI, setL, List.set]) (fun v30 e30 => ?_)
    refine z_goto (pc := 33) (tgt := 17) dX0_lay_33 rfl ?_
    rw [zJ_step]
    exact ih (i + 1) v30 (by omega) (by omega) (by omega)

theorem c_X0_lay {l : Launch} {G : Gx} {d : Nat} {σ : Sg} {Q : Option Value → Sg → Prop} {b : Nat} {a n : Int32} (hb : b < 8) (h : Q none (zJ (uI (uI (uI σ (49 + b) 1 1) (49 + b) 2 a) (49 + b) 3 n) (57 + b) 100)) : Z l G M_X0_lay (d) 0 [some (.ref (49 + b)), some (.int a), some (.int n)] [] σ Q := by
  refine z_sub (L' := [some (.ref (49 + b)), some (.int a), some (.int n), none]) ⟨rfl, rfl, rfl, trivial⟩ ?_
  refine z_aload_n (pc := 0) dX0_lay_0 rfl ?_
  refine z_iconst (pc := 1) (v := 1) dX0_lay_1 (by decide) ?_
  refine z_putB (pc := 2) dX0_lay_2 fk_X0_15 (kd_bed hb) (by omega) (by decide) (by decide) (by decide) ?_
  refine z_aload_n (pc := 5) dX0_lay_5 rfl ?_
  refine z_iload_n (pc := 6) dX0_lay_6 rfl ?_
  refine z_putI (pc := 7) dX0_lay_7 fk_X0_19 (kd_bed hb) (by omega) (by decide) (by decide) ?_
  refine z_aload_n (pc := 10) dX0_lay_10 rfl ?_
  refine z_iload_n (pc := 11) dX0_lay_11 rfl ?_
  refine z_putI (pc := 12) dX0_lay_12 fk_X0_23 (kd_bed hb) (by omega) (by decide) (by decide) ?_
  refine z_iconst (pc := 15) (v := 0) dX0_lay_15 (by decide) ?_
  refine z_istore_n (pc := 16) dX0_lay_16 rfl rfl (by dsimp only [setI, setL, List.set]) ?_
  have hz := zJ_0 (uI (uI (uI σ (49 + b) 1 1) (49 + b) 2 a) (49 + b) 3 n) (57 + b)
  have := c_X0_lay_loop (l := l) (G := G) (d := d) (σ := uI (uI (uI σ (49 + b) 1 1) (49 + b) 2 a) (49 + b) 3 n) (a := a) (n := n) hb h 101 0 0 (by decide) (by omega) (by omega)
  rw [hz] at this
  exact this
