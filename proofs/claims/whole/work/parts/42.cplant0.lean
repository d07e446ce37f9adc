/-- object o becomes as object p was -/
def bec (σ : Sg) (o p : Nat) : Sg := (fun a b => if a = o then (if b < 8 then σ.1 p b else σ.1 o b) else σ.1 a b, σ.2)
theorem bec_row {σ : Sg} {o p a : Nat} (h : a ≠ o) : (bec σ o p).1 a = σ.1 a := by funext b; simp [bec, h]
theorem bec_2 {σ : Sg} {o p : Nat} : (bec σ o p).2 = σ.2 := rfl
theorem bec_at {σ : Sg} {o p k : Nat} (h : k < 8) : (bec σ o p).1 o k = σ.1 p k := by simp [bec, h]
theorem bec_eq {σ : Sg} {o p : Nat} (_h : p ≠ o) : uI (uI (uI (uI (uI (uI (uI (uI σ o 0 (σ.1 p 0)) o 1 (σ.1 p 1)) o 2 (σ.1 p 2)) o 3 (σ.1 p 3)) o 4 (σ.1 p 4)) o 5 (σ.1 p 5)) o 6 (σ.1 p 6)) o 7 (σ.1 p 7) = bec σ o p := by
  refine Prod.ext ?_ rfl
  funext a b
  by_cases ha : a = o
  · subst ha
    by_cases hb : b < 8
    · rw [bec_at hb]
      rcases (show b = 0 ∨ b = 1 ∨ b = 2 ∨ b = 3 ∨ b = 4 ∨ b = 5 ∨ b = 6 ∨ b = 7 by omega) with rfl | rfl | rfl | rfl | rfl | rfl | rfl | rfl <;> simp (disch := omega) only [uI_nk, uI_eq]
    · simp (disch := omega) only [uI_nk]
      simp [bec, hb]
  · rw [bec_row ha]
    simp (disch := omega) only [uI_row]
theorem plC_bec {σ : Sg} {o p : Nat} {q : Pt} (h : plC σ p q) : plC (bec σ o p) o q := by
  unfold plC
  rw [bec_at (by omega), bec_at (by omega), bec_at (by omega), bec_at (by omega), bec_at (by omega), bec_at (by omega), bec_at (by omega), bec_at (by omega)]
  exact h

theorem c_X6_become {l : Launch} {G : Gx} {d : Nat} {σ : Sg} {Q : Option Value → Sg → Prop} {o p : Nat} (ho : kd o = 6) (hn : o < 105) (hp : kd p = 6) (hpn : p < 105) (hne : p ≠ o) (hb : σ.1 p 7 = 0 ∨ σ.1 p 7 = 1) (h : Q none (bec σ o p)) : Z l G M_X6_become (d) 0 [some (.ref o), some (.ref p)] [] σ Q := by
  refine z_sub (L' := [some (.ref o), some (.ref p)]) ⟨rfl, rfl, trivial⟩ ?_
  refine z_aload_n (pc := 0) dX6_become_0 rfl ?_
  refine z_aload_n (pc := 1) dX6_become_1 rfl ?_
  refine z_getI (pc := 2) dX6_become_2 fk_X6_9 hp hpn (by decide) (by decide) ?_
  refine z_putI (pc := 5) dX6_become_5 fk_X6_9 ho hn (by decide) (by decide) ?_
  refine z_aload_n (pc := 8) dX6_become_8 rfl ?_
  refine z_aload_n (pc := 9) dX6_become_9 rfl ?_
  refine z_getI (pc := 10) dX6_become_10 fk_X6_15 hp hpn (by decide) (by decide) ?_
  rw [uI_no hne]
  refine z_putI (pc := 13) dX6_become_13 fk_X6_15 ho hn (by decide) (by decide) ?_
  refine z_aload_n (pc := 16) dX6_become_16 rfl ?_
  refine z_aload_n (pc := 17) dX6_become_17 rfl ?_
  refine z_getI (pc := 18) dX6_become_18 fk_X6_18 hp hpn (by decide) (by decide) ?_
  simp only [uI_no hne]
  refine z_putI (pc := 21) dX6_become_21 fk_X6_18 ho hn (by decide) (by decide) ?_
  refine z_aload_n (pc := 24) dX6_become_24 rfl ?_
  refine z_aload_n (pc := 25) dX6_become_25 rfl ?_
  refine z_getI (pc := 26) dX6_become_26 fk_X6_29 hp hpn (by decide) (by decide) ?_
  simp only [uI_no hne]
  refine z_putI (pc := 29) dX6_become_29 fk_X6_29 ho hn (by decide) (by decide) ?_
  refine z_aload_n (pc := 32) dX6_become_32 rfl ?_
  refine z_aload_n (pc := 33) dX6_become_33 rfl ?_
  refine z_getI (pc := 34) dX6_become_34 fk_X6_36 hp hpn (by decide) (by decide) ?_
  simp only [uI_no hne]
  refine z_putI (pc := 37) dX6_become_37 fk_X6_36 ho hn (by decide) (by decide) ?_
  refine z_aload_n (pc := 40) dX6_become_40 rfl ?_
  refine z_aload_n (pc := 41) dX6_become_41 rfl ?_
  refine z_getI (pc := 42) dX6_become_42 fk_X6_39 hp hpn (by decide) (by decide) ?_
  simp only [uI_no hne]
  refine z_putI (pc := 45) dX6_become_45 fk_X6_39 ho hn (by decide) (by decide) ?_
  refine z_aload_n (pc := 48) dX6_become_48 rfl ?_
  refine z_aload_n (pc := 49) dX6_become_49 rfl ?_
  refine z_getI (pc := 50) dX6_become_50 fk_X6_42 hp hpn (by decide) (by decide) ?_
  simp only [uI_no hne]
  refine z_putI (pc := 53) dX6_become_53 fk_X6_42 ho hn (by decide) (by decide) ?_
  refine z_aload_n (pc := 56) dX6_become_56 rfl ?_
  refine z_aload_n (pc := 57) dX6_become_57 rfl ?_
  refine z_getI (pc := 58) dX6_become_58 fk_X6_21 hp hpn (by decide) (by decide) ?_
  simp only [uI_no hne]
  refine z_putB (pc := 61) dX6_become_61 fk_X6_21 ho hn (by decide) (by decide) (by assumption) ?_
  refine z_vret (pc := 64) dX6_become_64 rfl ?_
  rw [bec_eq hne]; exact h

theorem c_X10_keepForUndo {l : Launch} {G : Gx} {d : Nat} {σ : Sg} {Q : Option Value → Sg → Prop} {i : Nat} {x : Int32} (hi : i < 40) (hx : x.toInt = (i : Int)) (hb : σ.1 (65 + i) 7 = 0 ∨ σ.1 (65 + i) 7 = 1) (h : Q none (bec (uI (uI (uI σ 4 1 1) 4 2 x) 4 3 (σ.1 0 11)) 5 (65 + i))) : Z l G M_X10_keepForUndo (d + 1) 0 [some (.ref 0), some (.int x)] [] σ Q := by
  refine z_sub (L' := [some (.ref 0), some (.int x)]) ⟨rfl, rfl, trivial⟩ ?_
  refine z_aload_n (pc := 0) dX10_keepForUndo_0 rfl ?_
  refine z_getR (pc := 1) (t := 4) dX10_keepForUndo_1 fk_X10_26 rfl (by decide) (by decide) (by decide) rfl ?_
  refine z_iconst (pc := 4) (v := 1) dX10_keepForUndo_4 (by decide) ?_
  refine z_putB (pc := 5) dX10_keepForUndo_5 fk_X10_207 rfl (by decide) (by decide) (by decide) (by decide) ?_
  refine z_aload_n (pc := 8) dX10_keepForUndo_8 rfl ?_
  refine z_getR (pc := 9) (t := 4) dX10_keepForUndo_9 fk_X10_26 rfl (by decide) (by decide) (by decide) rfl ?_
  refine z_iload_n (pc := 12) dX10_keepForUndo_12 rfl ?_
  refine z_putI (pc := 13) dX10_keepForUndo_13 fk_X10_210 rfl (by decide) (by decide) (by decide) ?_
  refine z_aload_n (pc := 16) dX10_keepForUndo_16 rfl ?_
  refine z_getR (pc := 17) (t := 4) dX10_keepForUndo_17 fk_X10_26 rfl (by decide) (by decide) (by decide) rfl ?_
  refine z_aload_n (pc := 20) dX10_keepForUndo_20 rfl ?_
  refine z_getI (pc := 21) dX10_keepForUndo_21 fk_X10_137 rfl (by decide) (by decide) (by decide) ?_
  rw [uI_no (by omega), uI_no (by omega)]
  refine z_putI (pc := 24) dX10_keepForUndo_24 fk_X10_222 rfl (by decide) (by decide) (by decide) ?_
  refine z_aload_n (pc := 27) dX10_keepForUndo_27 rfl ?_
  refine z_getR (pc := 28) (t := 4) dX10_keepForUndo_28 fk_X10_26 rfl (by decide) (by decide) (by decide) rfl ?_
  refine z_getR (pc := 31) (t := 5) dX10_keepForUndo_31 fk_X10_214 rfl (by decide) (by decide) (by decide) rfl ?_
  refine z_aload_n (pc := 34) dX10_keepForUndo_34 rfl ?_
  refine z_getR (pc := 35) (t := 3) dX10_keepForUndo_35 fk_X10_18 rfl (by decide) (by decide) (by decide) rfl ?_
  refine z_iload_n (pc := 38) dX10_keepForUndo_38 rfl ?_
  refine z_aaldN (pc := 39) i (t := (65 + i)) dX10_keepForUndo_39 (Or.inr rfl) (by decide) hx (by show _ < 40; omega) rfl ?_
  refine z_iv1 (pc := 40) dX10_keepForUndo_40 kv_X10_218 rfl (by decide) (by decide) rfl rfl ?_
  refine c_X6_become rfl (by decide) kd_plant (by omega) (by omega) (by simp (disch := omega) only [uI_no]; exact hb) ?_
  refine z_vret (pc := 43) dX10_keepForUndo_43 rfl ?_
  exact h

/-- nothing is kept worked out -/
def fgt (σ : Sg) : Sg := uI (uI (uI (uI (uI σ 11 6 0) 18 7 0) 24 1 0) 26 2 0) 29 1 0
theorem fgt_CA {σ : Sg} {n : Nat} {pt : Nat → Pt} : CA (fgt σ) n pt := by
  unfold fgt
  exact CA_none (by simp (disch := omega) only [uI_row, uI_2, uI_nk, uI_no, uI_eq]) (by simp (disch := omega) only [uI_row, uI_2, uI_nk, uI_no, uI_eq]) (by simp (disch := omega) only [uI_row, uI_2, uI_nk, uI_no, uI_eq]) (by simp (disch := omega) only [uI_row, uI_2, uI_nk, uI_no, uI_eq]) (by simp (disch := omega) only [uI_row, uI_2, uI_nk, uI_no, uI_eq])
theorem fgt_row {σ : Sg} {o : Nat} (h : o < 11 ∨ 30 < o) : (fgt σ).1 o = σ.1 o := by
  unfold fgt
  simp (disch := omega) only [uI_row]
theorem fgt_2 {σ : Sg} : (fgt σ).2 = σ.2 := rfl
theorem fgt_X {σ τ : Sg} (h : eqM σ τ) : eqM σ (fgt τ) := eqM_uI (eqM_uI (eqM_uI (eqM_uI (eqM_uI h rfl) rfl) rfl) rfl) rfl
theorem eqM_bec {σ τ : Sg} {o p : Nat} (h : eqM σ τ) (ho : isM o = false) : eqM σ (bec τ o p) := fun a ha => by
  have hne : a ≠ o := fun e => by rw [e, ho] at ha; cases ha
  exact ⟨(bec_row hne).trans (h a ha).1, (h a ha).2⟩

theorem c_X10_forget {l : Launch} {G : Gx} {d : Nat} {σ : Sg} {Q : Option Value → Sg → Prop} (h : Q none (fgt σ)) : Z l G M_X10_forget (d) 0 [some (.ref 0)] [] σ Q := by
  refine z_sub (L' := [some (.ref 0)]) ⟨rfl, trivial⟩ ?_
  refine z_aload_n (pc := 0) dX10_forget_0 rfl ?_
  refine z_getR (pc := 1) (t := 11) dX10_forget_1 fk_X10_52 rfl (by decide) (by decide) (by decide) rfl ?_
  refine z_iconst (pc := 4) (v := 0) dX10_forget_4 (by decide) ?_
  refine z_putB (pc := 5) dX10_forget_5 fk_X10_314 rfl (by decide) (by decide) (by decide) (by decide) ?_
  refine z_aload_n (pc := 8) dX10_forget_8 rfl ?_
  refine z_getR (pc := 9) (t := 18) dX10_forget_9 fk_X10_59 rfl (by decide) (by decide) (by decide) rfl ?_
  refine z_iconst (pc := 12) (v := 0) dX10_forget_12 (by decide) ?_
  refine z_putB (pc := 13) dX10_forget_13 fk_X10_315 rfl (by decide) (by decide) (by decide) (by decide) ?_
  refine z_aload_n (pc := 16) dX10_forget_16 rfl ?_
  refine z_getR (pc := 17) (t := 24) dX10_forget_17 fk_X10_66 rfl (by decide) (by decide) (by decide) rfl ?_
  refine z_iconst (pc := 20) (v := 0) dX10_forget_20 (by decide) ?_
  refine z_putB (pc := 21) dX10_forget_21 fk_X10_316 rfl (by decide) (by decide) (by decide) (by decide) ?_
  refine z_aload_n (pc := 24) dX10_forget_24 rfl ?_
  refine z_getR (pc := 25) (t := 26) dX10_forget_25 fk_X10_73 rfl (by decide) (by decide) (by decide) rfl ?_
  refine z_iconst (pc := 28) (v := 0) dX10_forget_28 (by decide) ?_
  refine z_putB (pc := 29) dX10_forget_29 fk_X10_273 rfl (by decide) (by decide) (by decide) (by decide) ?_
  refine z_aload_n (pc := 32) dX10_forget_32 rfl ?_
  refine z_getR (pc := 33) (t := 29) dX10_forget_33 fk_X10_80 rfl (by decide) (by decide) (by decide) rfl ?_
  refine z_iconst (pc := 36) (v := 0) dX10_forget_36 (by decide) ?_
  refine z_putB (pc := 37) dX10_forget_37 fk_X10_294 rfl (by decide) (by decide) (by decide) (by decide) ?_
  refine z_vret (pc := 40) dX10_forget_40 rfl ?_
  exact h

theorem c_X6_paint {l : Launch} {G : Gx} {d : Nat} {σ : Sg} {Q : Option Value → Sg → Prop} {o : Nat} {c : Int32} (ho : kd o = 6) (hn : o < 105) (h6 : o ≠ 6) (h7 : o ≠ 7) (h8 : o ≠ 8) (hT : 0 ≤ (σ.1 8 1).toInt ∧ (σ.1 8 1).toInt ≤ 16) (hk0 : 0 ≤ (σ.1 o 2).toInt) (hk1 : (σ.1 o 2).toInt < 5) (h : ∀ r b a : Int32, r.toInt = redOf (σ.1 o 2).toInt c.toInt → b.toInt = blueOf (σ.1 o 2).toInt c.toInt → a.toInt = allOf (σ.1 o 2).toInt c.toInt → Q none (uI (uI (uI (uI σ o 3 c) o 4 r) o 5 b) o 6 a)) : Z l G M_X6_paint (d + 7) 0 [some (.ref o), some (.int c), some (.ref 8)] [] σ Q := by
  refine z_sub (L' := [some (.ref o), some (.int c), some (.ref 8)]) ⟨rfl, rfl, rfl, trivial⟩ ?_
  refine z_aload_n (pc := 0) dX6_paint_0 rfl ?_
  refine z_iload_n (pc := 1) dX6_paint_1 rfl ?_
  refine z_putI (pc := 2) dX6_paint_2 fk_X6_29 ho hn (by decide) (by decide) ?_
  refine z_aload_n (pc := 5) dX6_paint_5 rfl ?_
  refine z_aload_n (pc := 6) dX6_paint_6 rfl ?_
  refine z_iconst (pc := 7) (v := 0) dX6_paint_7 (by decide) ?_
  refine z_aload_n (pc := 8) dX6_paint_8 rfl ?_
  refine z_iconst (pc := 9) (v := 0) dX6_paint_9 (by decide) ?_
  refine z_iv3 (pc := 10) dX6_paint_10 kv_X6_32 ho hn (by decide) rfl rfl ?_
  refine c_bRed ho hn h6 h7 (t := 8) ⟨Or.inr rfl, by simp (disch := omega) only [uI_row, uI_2, uI_nk, uI_no, uI_eq]; exact hT.1, by simp (disch := omega) only [uI_row, uI_2, uI_nk, uI_no, uI_eq]; exact hT.2⟩ (by decide) (by decide) (by simp (disch := omega) only [uI_row, uI_2, uI_nk, uI_no, uI_eq]; exact hk0) (by simp (disch := omega) only [uI_row, uI_2, uI_nk, uI_no, uI_eq]; exact hk1) (fun rr err => ?_)
  rw [lvs_8]
  simp (disch := omega) only [uI_nk, uI_eq] at err
  refine z_putI (pc := 13) dX6_paint_13 fk_X6_36 ho hn (by decide) (by decide) ?_
  refine z_aload_n (pc := 16) dX6_paint_16 rfl ?_
  refine z_aload_n (pc := 17) dX6_paint_17 rfl ?_
  refine z_iconst (pc := 18) (v := 1) dX6_paint_18 (by decide) ?_
  refine z_aload_n (pc := 19) dX6_paint_19 rfl ?_
  refine z_iconst (pc := 20) (v := 0) dX6_paint_20 (by decide) ?_
  refine z_iv3 (pc := 21) dX6_paint_21 kv_X6_32 ho hn (by decide) rfl rfl ?_
  refine c_bBlu ho hn h6 h7 (t := 8) ⟨Or.inr rfl, by simp (disch := omega) only [uI_row, uI_2, uI_nk, uI_no, uI_eq]; exact hT.1, by simp (disch := omega) only [uI_row, uI_2, uI_nk, uI_no, uI_eq]; exact hT.2⟩ (by decide) (by decide) (by simp (disch := omega) only [uI_row, uI_2, uI_nk, uI_no, uI_eq]; exact hk0) (by simp (disch := omega) only [uI_row, uI_2, uI_nk, uI_no, uI_eq]; exact hk1) (fun rb erb => ?_)
  rw [lvs_8]
  simp (disch := omega) only [uI_nk, uI_eq] at erb
  refine z_putI (pc := 24) dX6_paint_24 fk_X6_39 ho hn (by decide) (by decide) ?_
  refine z_aload_n (pc := 27) dX6_paint_27 rfl ?_
  refine z_aload_n (pc := 28) dX6_paint_28 rfl ?_
  refine z_iconst (pc := 29) (v := 2) dX6_paint_29 (by decide) ?_
  refine z_aload_n (pc := 30) dX6_paint_30 rfl ?_
  refine z_iconst (pc := 31) (v := 0) dX6_paint_31 (by decide) ?_
  refine z_iv3 (pc := 32) dX6_paint_32 kv_X6_32 ho hn (by decide) rfl rfl ?_
  refine c_bAll ho hn h6 h7 (t := 8) ⟨Or.inr rfl, by simp (disch := omega) only [uI_row, uI_2, uI_nk, uI_no, uI_eq]; exact hT.1, by simp (disch := omega) only [uI_row, uI_2, uI_nk, uI_no, uI_eq]; exact hT.2⟩ (by decide) (by decide) (by simp (disch := omega) only [uI_row, uI_2, uI_nk, uI_no, uI_eq]; exact hk0) (by simp (disch := omega) only [uI_row, uI_2, uI_nk, uI_no, uI_eq]; exact hk1) (fun ra era => ?_)
  rw [lvs_8]
  simp (disch := omega) only [uI_nk, uI_eq] at era
  refine z_putI (pc := 35) dX6_paint_35 fk_X6_42 ho hn (by decide) (by decide) ?_
  refine z_vret (pc := 38) dX6_paint_38 rfl ?_
  exact h _ _ _ err erb era

theorem c_X6_begin {l : Launch} {G : Gx} {d : Nat} {σ : Sg} {Q : Option Value → Sg → Prop} {o : Nat} {x y k : Int32} (ho : kd o = 6) (hn : o < 105) (h6 : o ≠ 6) (h7 : o ≠ 7) (h8 : o ≠ 8) (hT : 0 ≤ (σ.1 8 1).toInt ∧ (σ.1 8 1).toInt ≤ 16) (hk0 : 0 ≤ k.toInt) (hk1 : k.toInt < 5) (h : ∀ τ, plC τ o (x, y, k, 0, false) → (∀ a, a ≠ o → τ.1 a = σ.1 a) → τ.2 = σ.2 → Q none τ) : Z l G M_X6_begin (d + 8) 0 [some (.ref o), some (.int x), some (.int y), some (.int k), some (.ref 8)] [] σ Q := by
  refine z_sub (L' := [some (.ref o), some (.int x), some (.int y), some (.int k), some (.ref 8)]) ⟨rfl, rfl, rfl, rfl, rfl, trivial⟩ ?_
  refine z_aload_n (pc := 0) dX6_begin_0 rfl ?_
  refine z_iload_n (pc := 1) dX6_begin_1 rfl ?_
  refine z_putI (pc := 2) dX6_begin_2 fk_X6_9 ho hn (by decide) (by decide) ?_
  refine z_aload_n (pc := 5) dX6_begin_5 rfl ?_
  refine z_iload_n (pc := 6) dX6_begin_6 rfl ?_
  refine z_putI (pc := 7) dX6_begin_7 fk_X6_15 ho hn (by decide) (by decide) ?_
  refine z_aload_n (pc := 10) dX6_begin_10 rfl ?_
  refine z_iload_n (pc := 11) dX6_begin_11 rfl ?_
  refine z_putI (pc := 12) dX6_begin_12 fk_X6_18 ho hn (by decide) (by decide) ?_
  refine z_aload_n (pc := 15) dX6_begin_15 rfl ?_
  refine z_iconst (pc := 16) (v := 1) dX6_begin_16 (by decide) ?_
  refine z_putB (pc := 17) dX6_begin_17 fk_X6_21 ho hn (by decide) (by decide) (by decide) ?_
  refine z_aload_n (pc := 20) dX6_begin_20 rfl ?_
  refine z_iconst (pc := 21) (v := 0) dX6_begin_21 (by decide) ?_
  refine z_aload (pc := 22) dX6_begin_22 rfl ?_
  refine z_iv2 (pc := 24) dX6_begin_24 kv_X6_25 ho hn (by decide) rfl rfl ?_
  refine c_X6_paint ho hn h6 h7 h8 ⟨by simp (disch := omega) only [uI_row, uI_2, uI_nk, uI_no, uI_eq]; exact hT.1, by simp (disch := omega) only [uI_row, uI_2, uI_nk, uI_no, uI_eq]; exact hT.2⟩ (by simp (disch := omega) only [uI_row, uI_2, uI_nk, uI_no, uI_eq]; exact hk0) (by simp (disch := omega) only [uI_row, uI_2, uI_nk, uI_no, uI_eq]; exact hk1) (fun r b a er eb ea => ?_)
  simp (disch := omega) only [uI_nk, uI_eq] at er eb ea
  refine z_vret (pc := 27) dX6_begin_27 rfl ?_
  refine h _ ⟨?_, ?_, ?_, ?_, ?_, ?_, ?_, ?_⟩ (fun z hz => ?_) rfl
  · simp (disch := omega) only [uI_row, uI_2, uI_nk, uI_no, uI_eq]
  · simp (disch := omega) only [uI_row, uI_2, uI_nk, uI_no, uI_eq]
  · simp (disch := omega) only [uI_row, uI_2, uI_nk, uI_no, uI_eq]
  · simp (disch := omega) only [uI_row, uI_2, uI_nk, uI_no, uI_eq]
  · simp (disch := omega) only [uI_row, uI_2, uI_nk, uI_no, uI_eq]; exact er
  · simp (disch := omega) only [uI_row, uI_2, uI_nk, uI_no, uI_eq]; exact eb
  · simp (disch := omega) only [uI_row, uI_2, uI_nk, uI_no, uI_eq]; exact ea
  · simp (disch := omega) only [uI_row, uI_2, uI_nk, uI_no, uI_eq]; rfl
  · simp (disch := omega) only [uI_row, uI_2, uI_nk, uI_no, uI_eq]
