/-- the stores agree outside lo .. hi -/
def eqX (lo hi : Nat) (σ τ : Sg) : Prop := ∀ o, (o < lo ∨ hi < o) → τ.1 o = σ.1 o ∧ τ.2 o = σ.2 o
theorem eqX_rf {lo hi : Nat} {σ : Sg} : eqX lo hi σ σ := fun _ _ => ⟨rfl, rfl⟩
theorem eqX_tr {lo hi : Nat} {σ τ υ : Sg} (h : eqX lo hi σ τ) (g : eqX lo hi τ υ) : eqX lo hi σ υ := fun o ho => ⟨(g o ho).1.trans (h o ho).1, (g o ho).2.trans (h o ho).2⟩
theorem eqX_uI {lo hi : Nat} {σ τ : Sg} {o k : Nat} {v : Int32} (h : eqX lo hi σ τ) (h1 : lo ≤ o) (h2 : o ≤ hi) : eqX lo hi σ (uI τ o k v) := fun a ha => ⟨(uI_row (by omega)).trans (h a ha).1, (h a ha).2⟩
theorem eqX_uJ {lo hi : Nat} {σ τ : Sg} {o k : Nat} {v : Int64} (h : eqX lo hi σ τ) (h1 : lo ≤ o) (h2 : o ≤ hi) : eqX lo hi σ (uJ τ o k v) := fun a ha => ⟨(h a ha).1, (uJ_row (by omega)).trans (h a ha).2⟩
theorem eqX_wide {lo hi lo' hi' : Nat} {σ τ : Sg} (h : eqX lo hi σ τ) (h1 : lo' ≤ lo) (h2 : hi ≤ hi') : eqX lo' hi' σ τ := fun o ho => h o (by omega)
theorem eqX_M {lo hi : Nat} {σ τ : Sg} (h : eqX lo hi σ τ) (h1 : 2 ≤ lo) (h2 : hi ≤ 30) : eqM σ τ := fun o ho => h o (by
  unfold isM at ho
  by_cases e : o = 1
  · omega
  · have e' : (o == 1) = false := by simp [e]
    rw [e'] at ho
    simp only [Bool.false_or, Bool.and_eq_true] at ho
    have := Nat.le_of_ble_eq_true ho.1
    omega)
theorem prs_succ (n : Nat) (pt : Nat → Pt) : prs (n + 1) pt = prs n pt ++ (if (pt n).2.2.2.2 then [] else [n]) := by
  unfold prs
  rw [List.range_succ, List.filter_append]
  congr 1
  cases h : (pt n).2.2.2.2 <;> simp [h]
theorem prs_len (n : Nat) (pt : Nat → Pt) : (prs n pt).length ≤ n := by
  unfold prs
  have := List.length_filter_le (fun i => !(pt i).2.2.2.2) (List.range n)
  simpa using this
theorem prs_at {n j i : Nat} {pt : Nat → Pt} (h : (prs n pt)[j]? = some i) : i < n ∧ (pt i).2.2.2.2 = false := by
  have := List.mem_of_getElem? h
  unfold prs at this
  simp only [List.mem_filter, List.mem_range, Bool.not_eq_true'] at this
  exact this

theorem c_X7_add {l : Launch} {G : Gx} {d : Nat} {σ : Sg} {Q : Option Value → Sg → Prop} {i m : Nat} {x : Int32} (hi : i < 40) (hm : (σ.1 11 7).toInt = (m : Int)) (hm2 : m < 40) (h : ∀ w : Int32, w.toInt = (m : Int) + 1 → Q none (uI (uI (uI (uI (uI (uI (uI σ 12 m x) 13 m (σ.1 (65 + i) 0)) 14 m (σ.1 (65 + i) 1)) 15 m (σ.1 (65 + i) 4)) 16 m (σ.1 (65 + i) 5)) 17 m (σ.1 (65 + i) 6)) 11 7 w)) : Z l G M_X7_add (d) 0 [some (.ref 11), some (.int x), some (.ref (65 + i))] [] σ Q := by
  refine z_sub (L' := [some (.ref 11), some (.int x), some (.ref (65 + i))]) ⟨rfl, rfl, rfl, trivial⟩ ?_
  refine z_aload_n (pc := 0) dX7_add_0 rfl ?_
  refine z_getR (pc := 1) (t := 12) dX7_add_1 fk_X7_9 rfl (by decide) (by decide) (by decide) rfl ?_
  refine z_aload_n (pc := 4) dX7_add_4 rfl ?_
  refine z_getI (pc := 5) dX7_add_5 fk_X7_30 rfl (by decide) (by decide) (by decide) ?_
  refine z_iload_n (pc := 8) dX7_add_8 rfl ?_
  refine z_iastN (pc := 9) m dX7_add_9 rfl (by decide) (by simp (disch := omega) only [uI_row, uI_no]; exact hm) (by show _ < 40; omega) ?_
  refine z_aload_n (pc := 10) dX7_add_10 rfl ?_
  refine z_getR (pc := 11) (t := 13) dX7_add_11 fk_X7_15 rfl (by decide) (by decide) (by decide) rfl ?_
  refine z_aload_n (pc := 14) dX7_add_14 rfl ?_
  refine z_getI (pc := 15) dX7_add_15 fk_X7_30 rfl (by decide) (by decide) (by decide) ?_
  refine z_aload_n (pc := 18) dX7_add_18 rfl ?_
  refine z_getI (pc := 19) dX7_add_19 fk_X7_47 kd_plant (by omega) (by decide) (by decide) ?_
  refine z_iastN (pc := 22) m dX7_add_22 rfl (by decide) (by simp (disch := omega) only [uI_row, uI_no]; exact hm) (by show _ < 40; omega) ?_
  refine z_aload_n (pc := 23) dX7_add_23 rfl ?_
  refine z_getR (pc := 24) (t := 14) dX7_add_24 fk_X7_18 rfl (by decide) (by decide) (by decide) rfl ?_
  refine z_aload_n (pc := 27) dX7_add_27 rfl ?_
  refine z_getI (pc := 28) dX7_add_28 fk_X7_30 rfl (by decide) (by decide) (by decide) ?_
  refine z_aload_n (pc := 31) dX7_add_31 rfl ?_
  refine z_getI (pc := 32) dX7_add_32 fk_X7_49 kd_plant (by omega) (by decide) (by decide) ?_
  refine z_iastN (pc := 35) m dX7_add_35 rfl (by decide) (by simp (disch := omega) only [uI_row, uI_no]; exact hm) (by show _ < 40; omega) ?_
  refine z_aload_n (pc := 36) dX7_add_36 rfl ?_
  refine z_getR (pc := 37) (t := 15) dX7_add_37 fk_X7_21 rfl (by decide) (by decide) (by decide) rfl ?_
  refine z_aload_n (pc := 40) dX7_add_40 rfl ?_
  refine z_getI (pc := 41) dX7_add_41 fk_X7_30 rfl (by decide) (by decide) (by decide) ?_
  refine z_aload_n (pc := 44) dX7_add_44 rfl ?_
  refine z_getI (pc := 45) dX7_add_45 fk_X7_51 kd_plant (by omega) (by decide) (by decide) ?_
  refine z_iastN (pc := 48) m dX7_add_48 rfl (by decide) (by simp (disch := omega) only [uI_row, uI_no]; exact hm) (by show _ < 40; omega) ?_
  refine z_aload_n (pc := 49) dX7_add_49 rfl ?_
  refine z_getR (pc := 50) (t := 16) dX7_add_50 fk_X7_24 rfl (by decide) (by decide) (by decide) rfl ?_
  refine z_aload_n (pc := 53) dX7_add_53 rfl ?_
  refine z_getI (pc := 54) dX7_add_54 fk_X7_30 rfl (by decide) (by decide) (by decide) ?_
  refine z_aload_n (pc := 57) dX7_add_57 rfl ?_
  refine z_getI (pc := 58) dX7_add_58 fk_X7_53 kd_plant (by omega) (by decide) (by decide) ?_
  refine z_iastN (pc := 61) m dX7_add_61 rfl (by decide) (by simp (disch := omega) only [uI_row, uI_no]; exact hm) (by show _ < 40; omega) ?_
  refine z_aload_n (pc := 62) dX7_add_62 rfl ?_
  refine z_getR (pc := 63) (t := 17) dX7_add_63 fk_X7_27 rfl (by decide) (by decide) (by decide) rfl ?_
  refine z_aload_n (pc := 66) dX7_add_66 rfl ?_
  refine z_getI (pc := 67) dX7_add_67 fk_X7_30 rfl (by decide) (by decide) (by decide) ?_
  refine z_aload_n (pc := 70) dX7_add_70 rfl ?_
  refine z_getI (pc := 71) dX7_add_71 fk_X7_55 kd_plant (by omega) (by decide) (by decide) ?_
  refine z_iastN (pc := 74) m dX7_add_74 rfl (by decide) (by simp (disch := omega) only [uI_row, uI_no]; exact hm) (by show _ < 40; omega) ?_
  refine z_aload_n (pc := 75) dX7_add_75 rfl ?_
  refine z_dup (pc := 76) dX7_add_76 rfl ?_
  refine z_getI (pc := 77) dX7_add_77 fk_X7_30 rfl (by decide) (by decide) (by decide) ?_
  refine z_iconst (pc := 80) (v := 1) dX7_add_80 (by decide) ?_
  refine z_iaddT (pc := 81) (cy := 1) dX7_add_81 rfl (by decide) (by omega) (by omega) (fun v81 e81 => ?_)
  refine z_putI (pc := 82) dX7_add_82 fk_X7_30 rfl (by decide) (by decide) (by decide) ?_
  refine z_vret (pc := 85) dX7_add_85 rfl ?_
  simp (disch := omega) only [uI_row, uI_no] at *
  exact h _ (by omega)
