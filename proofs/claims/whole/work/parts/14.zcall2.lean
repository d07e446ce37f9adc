/-! static calls, calls by arity, static fields, Math, arraycopy -/
section ZD
variable {l : Launch} {G : Gx} {M : Mt} {d pc : Nat} {L : Lc} {st : List Value} {σ : Sg} {Q : Option Value → Sg → Prop}
theorem ent_len (α : Nat → Nat) : ∀ as : List Value, (lg_sl (as.map (rv α))).length = (ent as).length := by
    intro as
    induction as with
    | nil => rfl
    | cons w r ih =>
      have hcat := rv_cat α w
      by_cases h2 : w.category = 2
      · have he : ent (w :: r) = some w :: none :: ent r := by simp [ent, h2]
        rw [he]
        show (lg_sl (rv α w :: r.map (rv α))).length = _
        simp only [lg_sl, List.flatMap_cons, hcat, h2, if_true, List.length_append, List.length_cons, List.length_nil] at ih ⊢
        omega
      · have he : ent (w :: r) = some w :: ent r := by
          rw [ent]
          split
          · rename_i hh; exact absurd hh h2
          · rfl
        rw [he]
        show (lg_sl (rv α w :: r.map (rv α))).length = _
        simp only [lg_sl, List.flatMap_cons, hcat, h2, if_false, List.length_append, List.length_cons, List.length_nil] at ih ⊢
        omega
set_option maxHeartbeats 4000000 in
theorem z_is {idx n : Nat} {M' : Mt} (As : List Value) (hd : decode M.2.1 pc = .ok (.invokestatic idx, 3)) (hc : CS M.1.cls idx M' n) (hA : As.length = n) (hsl : Nat.ble ((ent As).length) M'.2.2.1 = true) (hW : Nat.ble ((st.map fun v => v.category).sum) 8 = true)
    (k : Z l G M' d 0 (ent As) [] σ (fun v σ' => Z l G M (d + 1) (pc + 3) L (psh v st) σ' Q)) : Z l G M (d + 1) pc L (As.reverse ++ st) σ Q := by
  intro p e R s m args below meth c H locs cells slots Qf ls C hR hl
  obtain ⟨c1, c2, c5, c7, c8, c9, c10, c11, c12⟩ := hc
  have hM := met_of (l := l) (G := G) (M := M') (d := d) (as := As) c7 (by rw [ent_len]; exact Nat.le_of_ble_eq_true hsl) k
  have hts := C.2.2.2.2.1
  have hroom : (rmd d).frames + 1 ≤ R.frames ∧ 8 + (M'.2.2.1 + 11) + (rmd d).locals ≤ R.locals := ⟨by have := C.2.2.2.2.2.2.1; simp only [rmd]; omega, by have := C.2.2.2.2.2.2.2.1; simp only [rmd]; omega⟩
  refine z_after (st := st) (a := (As.map (rv G.1)).toArray) ?_ C hR hl
  rcases c12 with c12 | ⟨host, c12⟩
  · have hcb : CallB R s args M.1.cls idx M'.1 M'.2.1 M'.2.2.1 M'.2.2.2 (wsM M') (rmd d) 0 0 n := callB_of n hts (gi_M c1) rfl rfl rfl (hts _ (gtb_of c5 rfl)) (hts _ (gtb_of c12 rfl)) ⟨c8, c9, c10⟩ hroom
    have hrun := va_runS (l := l) (e := e) (below := below) (meth := meth) (H := H) (locs := locs) (cells := cells) (slots := slots) (As := As.map (rv G.1)) (rest := st.map (rv G.1)) (g := F0 m pc ls ((As.reverse ++ st).map (rv G.1))) (n := n) (mc := 0) (ms := 0) (S := ⟨C.1, C.2.1, C.2.2.1, C.2.2.2.1, hts⟩) hM ⟨hcb, hts _ (gtb_of c2 rfl)⟩ ⟨pcz_blind, fun U hU hW => ⟨rfl, by rw [hU]; exact hR.1, hR.2.1, ft_moved (fun w hw hz => nst_warm hW hw hz) C.2.2.2.2.2.1 hU hR.2.2 hW.alike⟩⟩ rfl (by simpa using hA) hl.1 (by simp) (by
      have := Nat.le_of_ble_eq_true hW
      exact lv_room (by rw [rv_cats]; exact this)) hd ⟨C.2.2.2.2.2.2.2.2.1, C.2.2.2.2.2.2.2.2.2.1⟩
    exact hrun
  · have hcb : va_CN R s args M.1.cls idx M'.1 host M'.2.1 M'.2.2.1 M'.2.2.2 (wsM M') (rmd d) 0 0 n := va_cnB n hts (gi_M c1) rfl rfl rfl (C.2.2.2.2.2.1.1 _ c12 (Or.inl ⟨_, _, _, _, rfl⟩)) (hts _ (gtb_of c5 rfl)) ⟨c8, c9, c10⟩ hroom
    have hrun := va_runSN (l := l) (e := e) (below := below) (meth := meth) (H := H) (locs := locs) (cells := cells) (slots := slots) (As := As.map (rv G.1)) (rest := st.map (rv G.1)) (g := F0 m pc ls ((As.reverse ++ st).map (rv G.1))) (n := n) (mc := 0) (ms := 0) (S := ⟨C.1, C.2.1, C.2.2.1, C.2.2.2.1, hts⟩) hM ⟨hcb, hts _ (gtb_of c2 rfl), trivial⟩ ⟨pcz_blind, fun U hU hW => ⟨rfl, by rw [hU]; exact hR.1, hR.2.1, ft_moved (fun w hw hz => nst_warm hW hw hz) C.2.2.2.2.2.1 hU hR.2.2 hW.alike⟩⟩ rfl (by simpa using hA) hl.1 (by simp) (by
      have := Nat.le_of_ble_eq_true hW
      exact lv_room (by rw [rv_cats]; exact this)) hd ⟨C.2.2.2.2.2.2.2.2.1, C.2.2.2.2.2.2.2.2.2.1⟩
    exact hrun
theorem z_iv0 {idx o ci : Nat} {M' : Mt} (hd : decode M.2.1 pc = .ok (.invokevirtual idx, 3)) (hc : CV M.1.cls idx M' ci 0) (ho : kd o = ci) (hn : o < 105) (hci : ci < 12) (hsl : Nat.ble ((ent (.ref o :: [])).length) M'.2.2.1 = true) (hW : Nat.ble ((st.map fun v => v.category).sum) 8 = true) (k : Z l G M' d 0 (ent (.ref o :: [])) [] σ (fun v σ' => Z l G M (d + 1) (pc + 3) L (psh v st) σ' Q)) : Z l G M (d + 1) pc L (.ref o :: st) σ Q := z_iv [] hd hc ho hn hci rfl hsl hW k
theorem z_iv1 {idx o ci : Nat} {M' : Mt} {a1 : Value} (hd : decode M.2.1 pc = .ok (.invokevirtual idx, 3)) (hc : CV M.1.cls idx M' ci 1) (ho : kd o = ci) (hn : o < 105) (hci : ci < 12) (hsl : Nat.ble ((ent (.ref o :: [a1])).length) M'.2.2.1 = true) (hW : Nat.ble ((st.map fun v => v.category).sum) 8 = true) (k : Z l G M' d 0 (ent (.ref o :: [a1])) [] σ (fun v σ' => Z l G M (d + 1) (pc + 3) L (psh v st) σ' Q)) : Z l G M (d + 1) pc L (a1 :: .ref o :: st) σ Q := z_iv [a1] hd hc ho hn hci rfl hsl hW k
theorem z_is1 {idx : Nat} {M' : Mt} {a1 : Value} (hd : decode M.2.1 pc = .ok (.invokestatic idx, 3)) (hc : CS M.1.cls idx M' 1) (hsl : Nat.ble ((ent [a1]).length) M'.2.2.1 = true) (hW : Nat.ble ((st.map fun v => v.category).sum) 8 = true) (k : Z l G M' d 0 (ent [a1]) [] σ (fun v σ' => Z l G M (d + 1) (pc + 3) L (psh v st) σ' Q)) : Z l G M (d + 1) pc L (a1 :: st) σ Q := z_is [a1] hd hc rfl hsl hW k
theorem z_iv2 {idx o ci : Nat} {M' : Mt} {a1 a2 : Value} (hd : decode M.2.1 pc = .ok (.invokevirtual idx, 3)) (hc : CV M.1.cls idx M' ci 2) (ho : kd o = ci) (hn : o < 105) (hci : ci < 12) (hsl : Nat.ble ((ent (.ref o :: [a1, a2])).length) M'.2.2.1 = true) (hW : Nat.ble ((st.map fun v => v.category).sum) 8 = true) (k : Z l G M' d 0 (ent (.ref o :: [a1, a2])) [] σ (fun v σ' => Z l G M (d + 1) (pc + 3) L (psh v st) σ' Q)) : Z l G M (d + 1) pc L (a2 :: a1 :: .ref o :: st) σ Q := z_iv [a1, a2] hd hc ho hn hci rfl hsl hW k
theorem z_is2 {idx : Nat} {M' : Mt} {a1 a2 : Value} (hd : decode M.2.1 pc = .ok (.invokestatic idx, 3)) (hc : CS M.1.cls idx M' 2) (hsl : Nat.ble ((ent [a1, a2]).length) M'.2.2.1 = true) (hW : Nat.ble ((st.map fun v => v.category).sum) 8 = true) (k : Z l G M' d 0 (ent [a1, a2]) [] σ (fun v σ' => Z l G M (d + 1) (pc + 3) L (psh v st) σ' Q)) : Z l G M (d + 1) pc L (a2 :: a1 :: st) σ Q := z_is [a1, a2] hd hc rfl hsl hW k
theorem z_iv3 {idx o ci : Nat} {M' : Mt} {a1 a2 a3 : Value} (hd : decode M.2.1 pc = .ok (.invokevirtual idx, 3)) (hc : CV M.1.cls idx M' ci 3) (ho : kd o = ci) (hn : o < 105) (hci : ci < 12) (hsl : Nat.ble ((ent (.ref o :: [a1, a2, a3])).length) M'.2.2.1 = true) (hW : Nat.ble ((st.map fun v => v.category).sum) 8 = true) (k : Z l G M' d 0 (ent (.ref o :: [a1, a2, a3])) [] σ (fun v σ' => Z l G M (d + 1) (pc + 3) L (psh v st) σ' Q)) : Z l G M (d + 1) pc L (a3 :: a2 :: a1 :: .ref o :: st) σ Q := z_iv [a1, a2, a3] hd hc ho hn hci rfl hsl hW k
theorem z_is3 {idx : Nat} {M' : Mt} {a1 a2 a3 : Value} (hd : decode M.2.1 pc = .ok (.invokestatic idx, 3)) (hc : CS M.1.cls idx M' 3) (hsl : Nat.ble ((ent [a1, a2, a3]).length) M'.2.2.1 = true) (hW : Nat.ble ((st.map fun v => v.category).sum) 8 = true) (k : Z l G M' d 0 (ent [a1, a2, a3]) [] σ (fun v σ' => Z l G M (d + 1) (pc + 3) L (psh v st) σ' Q)) : Z l G M (d + 1) pc L (a3 :: a2 :: a1 :: st) σ Q := z_is [a1, a2, a3] hd hc rfl hsl hW k
theorem z_iv4 {idx o ci : Nat} {M' : Mt} {a1 a2 a3 a4 : Value} (hd : decode M.2.1 pc = .ok (.invokevirtual idx, 3)) (hc : CV M.1.cls idx M' ci 4) (ho : kd o = ci) (hn : o < 105) (hci : ci < 12) (hsl : Nat.ble ((ent (.ref o :: [a1, a2, a3, a4])).length) M'.2.2.1 = true) (hW : Nat.ble ((st.map fun v => v.category).sum) 8 = true) (k : Z l G M' d 0 (ent (.ref o :: [a1, a2, a3, a4])) [] σ (fun v σ' => Z l G M (d + 1) (pc + 3) L (psh v st) σ' Q)) : Z l G M (d + 1) pc L (a4 :: a3 :: a2 :: a1 :: .ref o :: st) σ Q := z_iv [a1, a2, a3, a4] hd hc ho hn hci rfl hsl hW k
theorem z_iv5 {idx o ci : Nat} {M' : Mt} {a1 a2 a3 a4 a5 : Value} (hd : decode M.2.1 pc = .ok (.invokevirtual idx, 3)) (hc : CV M.1.cls idx M' ci 5) (ho : kd o = ci) (hn : o < 105) (hci : ci < 12) (hsl : Nat.ble ((ent (.ref o :: [a1, a2, a3, a4, a5])).length) M'.2.2.1 = true) (hW : Nat.ble ((st.map fun v => v.category).sum) 8 = true) (k : Z l G M' d 0 (ent (.ref o :: [a1, a2, a3, a4, a5])) [] σ (fun v σ' => Z l G M (d + 1) (pc + 3) L (psh v st) σ' Q)) : Z l G M (d + 1) pc L (a5 :: a4 :: a3 :: a2 :: a1 :: .ref o :: st) σ Q := z_iv [a1, a2, a3, a4, a5] hd hc ho hn hci rfl hsl hW k
theorem z_getsIs {idx : Nat} (hd : decode M.2.1 pc = .ok (.getstatic idx, 3)) (hw : Cond.fieldLinkNest M.1.cls idx "FurrowField" "IS_TOO" "[I" "FurrowField" ∈ lw_tbl) (k : Z l G M d (pc + 3) L (.ref 106 :: st) σ Q) : Z l G M d pc L st σ Q := by
  intro p e R s m args below meth c H locs cells slots Qf ls C hR hl
  exact va_getsN C.1 C.2.1 C.2.2.2.2.2.1.2.2.2.1 hR.2.2 C.2.2.2.1 (va_Nw.use rfl (C.2.2.2.2.2.1.1 _ hw (Or.inr ⟨_, _, _, _, _, _, rfl⟩))) (fun _ h => h) hd (k p e R s m args below meth c H locs cells slots Qf ls C hR hl)
theorem z_getsBo {idx : Nat} (hd : decode M.2.1 pc = .ok (.getstatic idx, 3)) (hw : Cond.fieldLinkNest M.1.cls idx "FurrowField" "BODIES" "[I" "FurrowField" ∈ lw_tbl) (k : Z l G M d (pc + 3) L (.ref 107 :: st) σ Q) : Z l G M d pc L st σ Q := by
  intro p e R s m args below meth c H locs cells slots Qf ls C hR hl
  exact va_getsN C.1 C.2.1 C.2.2.2.2.2.1.2.2.2.2 hR.2.2 C.2.2.2.1 (va_Nw.use rfl (C.2.2.2.2.2.1.1 _ hw (Or.inr ⟨_, _, _, _, _, _, rfl⟩))) (fun _ h => h) hd (k p e R s m args below meth c H locs cells slots Qf ls C hR hl)
theorem z_mmaxi {idx : Nat} {x y : Int32} (hd : decode M.2.1 pc = .ok (.invokestatic idx, 3)) (hw : Cond.methodLink M.1.cls idx Lib.Math.max.name ∈ lw_tbl) (hs : Nat.ble ((st.map fun v => v.category).sum) 8 = true) (k : Z l G M (d + 1) (pc + 3) L (.int (if x < y then y else x) :: st) σ Q) : Z l G M (d + 1) pc L (.int y :: .int x :: st) σ Q := by
  intro p e R s m args below meth c H locs cells slots Qf ls C hR hl
  have hs' := Nat.le_of_ble_eq_true hs
  have hfr := C.2.2.2.2.2.2.1
  have hlo := C.2.2.2.2.2.2.2.1
  have hts := C.2.2.2.2.1
  exact va_mmax C.1 C.2.1 (C.2.2.1.trans hl.1.symm) C.2.2.2.1 (hts _ (gtb_of hw rfl)) (hts _ (gtb_of (by decide +kernel) rfl)) (hts _ (gtb_of (by decide +kernel) rfl)) (hts _ (gtb_of (by decide +kernel) rfl)) (by omega) (by rw [rv_cats]; omega) C.2.2.2.2.2.2.2.2.1 C.2.2.2.2.2.2.2.2.2.1 hd (k p e R s m args below meth c H locs cells slots Qf ls C hR hl)
theorem z_mmini {idx : Nat} {x y : Int32} (hd : decode M.2.1 pc = .ok (.invokestatic idx, 3)) (hw : Cond.methodLink M.1.cls idx Lib.Math.min.name ∈ lw_tbl) (hs : Nat.ble ((st.map fun v => v.category).sum) 8 = true) (k : Z l G M (d + 1) (pc + 3) L (.int (if y < x then y else x) :: st) σ Q) : Z l G M (d + 1) pc L (.int y :: .int x :: st) σ Q := by
  intro p e R s m args below meth c H locs cells slots Qf ls C hR hl
  have hs' := Nat.le_of_ble_eq_true hs
  have hfr := C.2.2.2.2.2.2.1
  have hlo := C.2.2.2.2.2.2.2.1
  have hts := C.2.2.2.2.1
  exact va_mmin C.1 C.2.1 (C.2.2.1.trans hl.1.symm) C.2.2.2.1 (hts _ (gtb_of hw rfl)) (hts _ (gtb_of (by decide +kernel) rfl)) (hts _ (gtb_of (by decide +kernel) rfl)) (hts _ (gtb_of (by decide +kernel) rfl)) (by omega) (by rw [rv_cats]; omega) C.2.2.2.2.2.2.2.2.1 C.2.2.2.2.2.2.2.2.2.1 hd (k p e R s m args below meth c H locs cells slots Qf ls C hR hl)
theorem z_mmaxl {idx : Nat} {x y : Int64} (hd : decode M.2.1 pc = .ok (.invokestatic idx, 3)) (hw : Cond.methodLink M.1.cls idx Lib.MathLoose.max_long.x ∈ lw_tbl) (hs : Nat.ble ((st.map fun v => v.category).sum) 8 = true) (k : Z l G M (d + 1) (pc + 3) L (.long (if y < x then x else y) :: st) σ Q) : Z l G M (d + 1) pc L (.long y :: .long x :: st) σ Q := by
  intro p e R s m args below meth c H locs cells slots Qf ls C hR hl
  have hs' := Nat.le_of_ble_eq_true hs
  have hfr := C.2.2.2.2.2.2.1
  have hlo := C.2.2.2.2.2.2.2.1
  have hts := C.2.2.2.2.1
  exact va_mmax_long C.1 C.2.1 (C.2.2.1.trans hl.1.symm) C.2.2.2.1 (hts _ (gtb_of hw rfl)) (hts _ (gtb_of (by decide +kernel) rfl)) (hts _ (gtb_of (by decide +kernel) rfl)) (hts _ (gtb_of (by decide +kernel) rfl)) (by omega) (by rw [rv_cats]; omega) C.2.2.2.2.2.2.2.2.1 C.2.2.2.2.2.2.2.2.2.1 hd (k p e R s m args below meth c H locs cells slots Qf ls C hR hl)
def cpJ (σ : Sg) (a sp b dp n : Nat) : Sg := (σ.1, fun o => if o = b then va_cpy (σ.2 a) (σ.2 b) sp dp n else σ.2 o)
theorem z_copyl {idx a b : Nat} {sp dp n : Int32} (hd : decode M.2.1 pc = .ok (.invokestatic idx, 3)) (hw : Cond.methodLink M.1.cls idx arraycopyName ∈ lw_tbl) (ha : kd a = 13) (hb : kd b = 13) (ha1 : a < 105) (hb1 : b < 105) (h1 : ¬ sp < 0) (h2 : ¬ dp < 0) (h3 : ¬ n < 0) (h4 : sp.toNatClampNeg + n.toNatClampNeg ≤ ln a) (h5 : dp.toNatClampNeg + n.toNatClampNeg ≤ ln b) (hs : Nat.ble ((st.map fun v => v.category).sum) 8 = true)
    (k : Z l G M (d + 1) (pc + 3) L st (cpJ σ a sp.toNatClampNeg b dp.toNatClampNeg n.toNatClampNeg) Q) : Z l G M (d + 1) pc L (.int n :: .int dp :: .ref b :: .int sp :: .ref a :: st) σ Q := by
  intro p e R s m args below meth c H locs cells slots Qf ls C hR hl
  have hs' := Nat.le_of_ble_eq_true hs
  have hfr := C.2.2.2.2.2.2.1
  have hlo := C.2.2.2.2.2.2.2.1
  have hts := C.2.2.2.2.1
  have hnw : nativeFrameWords "java/lang/System" "arraycopy" 5 = 7 := by decide +kernel
  refine va_copyl C.1 C.2.1 (C.2.2.1.trans hl.1.symm) C.2.2.2.1 (hts _ (gtb_of hw rfl)) (hts _ (gtb_of (by decide +kernel) rfl)) (hts _ (gtb_of (by decide +kernel) rfl)) (hts _ (gtb_of (by decide +kernel) rfl)) C.2.2.2.2.2.1.2.1 hR.1 hR.2.1 hR.2.2 a b 1 1 (f := σ.2 a) (g := σ.2 b) (n0 := ln a) (n1 := ln b) (ws_at ha1 |>.trans (by rw [cel_J ha])) (ws_at hb1 |>.trans (by rw [cel_J hb])) rfl rfl rfl h1 h2 h3 h4 h5 (fun i _ => rfl) (by omega) (by rw [rv_cats, hnw]; omega) hd (fun H1 locs1 hP hD hS => ?_)
  have hw := ws_set (G := G) (σ := σ) (σ' := cpJ σ a sp.toNatClampNeg b dp.toNatClampNeg n.toNatClampNeg) (o := b) (x := .inl (G.2.2.1 1, ln b, .inr (.inl (va_cpy (σ.2 a) (σ.2 b) sp.toNatClampNeg dp.toNatClampNeg n.toNatClampNeg)))) (by rw [cel_J hb]; simp [cpJ]) (fun z hz => cel_cong rfl (by simp [cpJ, hz]))
  rw [hw] at hP hD
  exact k p e R s m args below meth c H1 locs1 cells slots Qf ls C ⟨hP, hD, hS⟩ hl
end ZD
