/-! depth in the class -/
theorem mini_toInt (x y : Int32) : (if y < x then y else x).toInt = min x.toInt y.toInt := by
  split <;> rename_i h <;> rw [Int32.lt_iff_toInt_lt] at h <;> omega
theorem maxi_toInt (x y : Int32) : (if x < y then y else x).toInt = max x.toInt y.toInt := by
  split <;> rename_i h <;> rw [Int32.lt_iff_toInt_lt] at h <;> omega
theorem maxl_toInt (x y : Int64) : (if y < x then x else y).toInt = max x.toInt y.toInt := by
  split <;> rename_i h <;> rw [Int64.lt_iff_toInt_lt] at h <;> omega
section ZM
variable {l : Launch} {G : Gx} {M : Mt} {d pc : Nat} {L : Lc} {st : List Value} {σ : Sg} {Q : Option Value → Sg → Prop}
theorem z_mminiT {idx : Nat} {x y : Int32} {cx cy : Int} (hd : decode M.2.1 pc = .ok (.invokestatic idx, 3)) (hw : Cond.methodLink M.1.cls idx Lib.Math.min.name ∈ lw_tbl) (hs : Nat.ble ((st.map fun v => v.category).sum) 8 = true) (hx : x.toInt = cx) (hy : y.toInt = cy) (k : ∀ v : Int32, v.toInt = min cx cy → Z l G M (d + 1) (pc + 3) L (.int v :: st) σ Q) : Z l G M (d + 1) pc L (.int y :: .int x :: st) σ Q := z_mmini hd hw hs (k _ (by rw [mini_toInt, hx, hy]))
theorem z_mmaxiT {idx : Nat} {x y : Int32} {cx cy : Int} (hd : decode M.2.1 pc = .ok (.invokestatic idx, 3)) (hw : Cond.methodLink M.1.cls idx Lib.Math.max.name ∈ lw_tbl) (hs : Nat.ble ((st.map fun v => v.category).sum) 8 = true) (hx : x.toInt = cx) (hy : y.toInt = cy) (k : ∀ v : Int32, v.toInt = max cx cy → Z l G M (d + 1) (pc + 3) L (.int v :: st) σ Q) : Z l G M (d + 1) pc L (.int y :: .int x :: st) σ Q := z_mmaxi hd hw hs (k _ (by rw [maxi_toInt, hx, hy]))
theorem z_mmaxlT {idx : Nat} {x y : Int64} {cx cy : Int} (hd : decode M.2.1 pc = .ok (.invokestatic idx, 3)) (hw : Cond.methodLink M.1.cls idx Lib.MathLoose.max_long.x ∈ lw_tbl) (hs : Nat.ble ((st.map fun v => v.category).sum) 8 = true) (hx : x.toInt = cx) (hy : y.toInt = cy) (k : ∀ v : Int64, v.toInt = max cx cy → Z l G M (d + 1) (pc + 3) L (.long v :: st) σ Q) : Z l G M (d + 1) pc L (.long y :: .long x :: st) σ Q := z_mmaxl hd hw hs (k _ (by rw [maxl_toInt, hx, hy]))
end ZM
/-- the rows dx, dy hold the vectors of the first m -/
def okV (σ : Sg) (n : Nat) (pt : Nat → Pt) (V : Nat → Int × Int) (m : Nat) : Prop := ∀ j i, j < m → (prs n pt)[j]? = some i → (σ.2 27 j).toInt = (V i).1 ∧ (σ.2 28 j).toInt = (V i).2
def bdV (n : Nat) (pt : Nat → Pt) (V : Nat → Int × Int) : Prop := ∀ i ∈ prs n pt, -1000000000 ≤ (V i).1 ∧ (V i).1 ≤ 1000000000 ∧ -1000000000 ≤ (V i).2 ∧ (V i).2 ≤ 1000000000
def w2 (pt : Nat → Pt) (i : Nat) : Int := cnt 2 (pt i)
theorem w2_rng (pt : Nat → Pt) (i : Nat) : 0 ≤ w2 pt i ∧ w2 pt i ≤ 4 := cnt_rng 2 (pt i)
theorem wX_rng (pt : Nat → Pt) (V : Nat → Int × Int) (u : Int × Int) (k : Nat) : (0 ≤ wL V (w2 pt) u k ∧ wL V (w2 pt) u k ≤ 4) ∧ (0 ≤ wR V (w2 pt) u k ∧ wR V (w2 pt) u k ≤ 4) ∧ (0 ≤ wA V (w2 pt) u k ∧ wA V (w2 pt) u k ≤ 4) ∧ (0 ≤ wB V (w2 pt) u k ∧ wB V (w2 pt) u k ≤ 4) ∧ (0 ≤ wH V (w2 pt) k ∧ wH V (w2 pt) k ≤ 4) := by
  have := w2_rng pt k
  unfold wL wR wA wB wH
  refine ⟨?_, ?_, ?_, ?_, ?_⟩ <;> split <;> omega
theorem lsumX_rng (P : List Nat) (pt : Nat → Pt) (V : Nat → Int × Int) (u : Int × Int) : (0 ≤ lsum P (wL V (w2 pt) u) ∧ lsum P (wL V (w2 pt) u) ≤ 4 * P.length) ∧ (0 ≤ lsum P (wR V (w2 pt) u) ∧ lsum P (wR V (w2 pt) u) ≤ 4 * P.length) ∧ (0 ≤ lsum P (wA V (w2 pt) u) ∧ lsum P (wA V (w2 pt) u) ≤ 4 * P.length) ∧ (0 ≤ lsum P (wB V (w2 pt) u) ∧ lsum P (wB V (w2 pt) u) ≤ 4 * P.length) ∧ (0 ≤ lsum P (wH V (w2 pt)) ∧ lsum P (wH V (w2 pt)) ≤ 4 * P.length) :=
  ⟨lsum_rng (fun i _ => (wX_rng pt V u i).1), lsum_rng (fun i _ => (wX_rng pt V u i).2.1), lsum_rng (fun i _ => (wX_rng pt V u i).2.2.1), lsum_rng (fun i _ => (wX_rng pt V u i).2.2.2.1), lsum_rng (fun i _ => (wX_rng pt V u i).2.2.2.2)⟩
theorem dI_rng (P : List Nat) (pt : Nat → Pt) (V : Nat → Int × Int) (i : Nat) : 0 ≤ dI P V (w2 pt) i ∧ dI P V (w2 pt) i ≤ 8 * P.length := by
  have := lsumX_rng P pt V (V i)
  unfold dI
  omega
def dPart (P : List Nat) (V : Nat → Int × Int) (w : Nat → Int) (j : Nat) : Int := (P.take j).foldl (dStep P V w) (lsum P w)
theorem dPart_step {P : List Nat} {V : Nat → Int × Int} {w : Nat → Int} {j i : Nat} (h : P[j]? = some i) : dPart P V w (j + 1) = dStep P V w (dPart P V w j) i := by
  unfold dPart
  rw [take_step h, List.foldl_append]
  rfl
theorem dStep_le (P : List Nat) (V : Nat → Int × Int) (w : Nat → Int) (m : Int) (i : Nat) : dStep P V w m i ≤ m := by
  unfold dStep
  split <;> omega
theorem fold_le (P : List Nat) (V : Nat → Int × Int) (w : Nat → Int) : ∀ (l : List Nat) (m : Int), l.foldl (dStep P V w) m ≤ m
  | [], m => Int.le_refl _
  | x :: xs, m => Int.le_trans (fold_le P V w xs _) (dStep_le P V w m x)
theorem dPart_le (P : List Nat) (V : Nat → Int × Int) (w : Nat → Int) (j : Nat) : dep P V w ≤ dPart P V w j := by
  have h : dep P V w = (P.drop j).foldl (dStep P V w) (dPart P V w j) := by
    unfold dep dPart
    rw [← List.foldl_append, List.take_append_drop]
  rw [h]
  exact fold_le P V w _ _
theorem fold_ge {P : List Nat} {V : Nat → Int × Int} {w : Nat → Int} {c : Int} (hc : ∀ i, (V i).1 ≠ 0 ∨ (V i).2 ≠ 0 → c ≤ lsum P (wH V w) + dI P V w i) : ∀ (l : List Nat) (m : Int), c ≤ m → c ≤ l.foldl (dStep P V w) m
  | [], m, h => h
  | x :: xs, m, h => fold_ge hc xs _ (by
    have := hc x
    unfold dStep
    split <;> omega)
theorem dep_ge0 (P : List Nat) (pt : Nat → Pt) (V : Nat → Int × Int) : 0 ≤ dep P V (w2 pt) ∧ dep P V (w2 pt) ≤ 4 * P.length := by
  have h1 := lsum_rng (l := P) (g := w2 pt) (c := 4) (fun i _ => w2_rng pt i)
  refine ⟨fold_ge (fun i _ => ?_) P _ h1.1, Int.le_trans (fold_le P V _ P _) h1.2⟩
  have h2 := lsumX_rng P pt V (V i)
  have h3 := dI_rng P pt V i
  omega
theorem dPart_rng (P : List Nat) (pt : Nat → Pt) (V : Nat → Int × Int) (j : Nat) : 0 ≤ dPart P V (w2 pt) j ∧ dPart P V (w2 pt) j ≤ 4 * P.length := by
  have h1 := lsum_rng (l := P) (g := w2 pt) (c := 4) (fun i _ => w2_rng pt i)
  refine ⟨fold_ge (fun i _ => ?_) _ _ h1.1, Int.le_trans (fold_le P V _ _ _) h1.2⟩
  have h2 := lsumX_rng P pt V (V i)
  have h3 := dI_rng P pt V i
  omega

theorem c_X2_isHere {l : Launch} {G : Gx} {d : Nat} {σ : Sg} {Q : Option Value → Sg → Prop} {j : Nat} {x1 : Int32} (hj : j < 40) (hx : x1.toInt = (j : Int)) (ht : (σ.2 27 j).toInt = 0 ∧ (σ.2 28 j).toInt = 0 → Q (some (.int 1)) σ) (hf : ¬ ((σ.2 27 j).toInt = 0 ∧ (σ.2 28 j).toInt = 0) → Q (some (.int 0)) σ) : Z l G M_X2_isHere (d) 0 [some (.ref 26), some (.int x1)] [] σ Q := by
  refine z_sub (L' := [some (.ref 26), some (.int x1)]) ⟨rfl, rfl, trivial⟩ ?_
  refine z_aload_n (pc := 0) dX2_isHere_0 rfl ?_
  refine z_getR (pc := 1) (t := 27) dX2_isHere_1 fk_X2_9 rfl (by decide) (by decide) (by decide) rfl ?_
  refine z_iload_n (pc := 4) dX2_isHere_4 rfl ?_
  refine z_laldN (pc := 5) j dX2_isHere_5 rfl (by decide) hx (by show _ < 40; omega) ?_
  refine z_lconst (pc := 6) (v := 0) dX2_isHere_6 (by decide) ?_
  refine zq_lc_ne (pc := 7) (cy := 0) (tgt := 26) dX2_isHere_7 dX2_isHere_8 rfl rfl (by decide) (fun h7 => ?_) (fun h7 => ?_)
  · skip
    refine z_iconst (pc := 26) (v := 0) dX2_isHere_26 (by decide) ?_
    refine z_zret (pc := 27) dX2_isHere_27 rfl (by decide) ?_
    exact hf (by omega)
  · skip
    refine z_aload_n (pc := 11) dX2_isHere_11 rfl ?_
    refine z_getR (pc := 12) (t := 28) dX2_isHere_12 fk_X2_15 rfl (by decide) (by decide) (by decide) rfl ?_
    refine z_iload_n (pc := 15) dX2_isHere_15 rfl ?_
    refine z_laldN (pc := 16) j dX2_isHere_16 rfl (by decide) hx (by show _ < 40; omega) ?_
    refine z_lconst (pc := 17) (v := 0) dX2_isHere_17 (by decide) ?_
    refine zq_lc_ne (pc := 18) (cy := 0) (tgt := 26) dX2_isHere_18 dX2_isHere_19 rfl rfl (by decide) (fun h18 => ?_) (fun h18 => ?_)
    · skip
      refine z_iconst (pc := 26) (v := 0) dX2_isHere_26 (by decide) ?_
      refine z_zret (pc := 27) dX2_isHere_27 rfl (by decide) ?_
      exact hf (by omega)
    · skip
      refine z_iconst (pc := 22) (v := 1) dX2_isHere_22 (by decide) ?_
      refine z_goto (pc := 23) (tgt := 27) dX2_isHere_23 rfl ?_
      refine z_zret (pc := 27) dX2_isHere_27 rfl (by decide) ?_
      exact ht (by omega)

theorem c_beside_loop {l : Launch} {G : Gx} {d : Nat} {σ : Sg} {Q : Option Value → Sg → Prop} {n j i : Nat} {pt : Nat → Pt} {V : Nat → Int × Int} {x2 : Int32} (hS : okStand σ n pt) (hn : n ≤ 40) (hV : okV σ n pt V (prs n pt).length) (hb : bdV n pt V) (hi : (prs n pt)[j]? = some i) (hx : x2.toInt = (j : Int)) (h : ∀ r : Int32, r.toInt = dI (prs n pt) V (w2 pt) i → Q (some (.int r)) σ) : ∀ (f k : Nat) (xl xr xa xb xk : Int32), xk.toInt = (k : Int) → k ≤ (prs n pt).length → (prs n pt).length - k < f → xl.toInt = lsum ((prs n pt).take k) (wL V (w2 pt) (V i)) → xr.toInt = lsum ((prs n pt).take k) (wR V (w2 pt) (V i)) → xa.toInt = lsum ((prs n pt).take k) (wA V (w2 pt) (V i)) → xb.toInt = lsum ((prs n pt).take k) (wB V (w2 pt) (V i)) → Z l G M_X2_leastBeside (d + 1) 14 [some (.ref 26), some (.ref 11), some (.int x2), some (.int xl), some (.int xr), some (.int xa), some (.int xb), some (.int xk), none, none, none, none] [] σ Q := by
  intro f
  induction f with
  | zero => intro k xl xr xa xb xk hk hkl hfu hl hr ha hbb; omega
  | succ f ih =>
  intro k xl xr xa xb xk hk hkl hfu hl hr ha hbb
  have hpl := prs_len n pt
  have hm := hS.1
  have hjl := (List.getElem?_eq_some_iff.mp hi).1
  have hsr := lsumX_rng ((prs n pt).take k) pt V (V i)
  rw [List.length_take] at hsr
  have vi := hV j i hjl hi
  have bi := hb i (List.mem_of_getElem? hi)
  refine z_iload (pc := 14) dX2_leastBeside_14 rfl ?_
  refine z_aload_n (pc := 16) dX2_leastBeside_16 rfl ?_
  refine z_getI (pc := 17) dX2_leastBeside_17 fk_X2_18 rfl (by decide) (by decide) (by decide) ?_
  refine zq_icmp_ge (pc := 20) (tgt := 174) dX2_leastBeside_20 rfl rfl rfl (fun h20 => ?_) (fun h20 => ?_)
  · skip
    refine z_iload_n (pc := 174) dX2_leastBeside_174 rfl ?_
    refine z_iload (pc := 175) dX2_leastBeside_175 rfl ?_
    refine z_mminiT (pc := 177) dX2_leastBeside_177 kj_X2_46 rfl rfl rfl (fun v177 e177 => ?_)
    refine z_iload (pc := 180) dX2_leastBeside_180 rfl ?_
    refine z_iload (pc := 182) dX2_leastBeside_182 rfl ?_
    refine z_mminiT (pc := 184) dX2_leastBeside_184 kj_X2_46 rfl rfl rfl (fun v184 e184 => ?_)
    refine z_iaddT (pc := 187) dX2_leastBeside_187 rfl rfl (by omega) (by omega) (fun v187 e187 => ?_)
    refine z_iret (pc := 188) dX2_leastBeside_188 rfl ?_
    rw [take_all (by omega)] at hl hr ha hbb
    exact h _ (by unfold dI; rw [← hl, ← hr, ← ha, ← hbb]; omega)
  · skip
    obtain ⟨r, hkr⟩ := prs_get (pt := pt) (n := n) (j := k) (by omega)
    have vk := hV k r (by omega) hkr
    have bk := hb r (List.mem_of_getElem? hkr)
    have hrow := st_row hS (w := 2) (by decide) hkr
    have hw := w2_rng pt r
    change (σ.1 17 k).toInt = w2 pt r at hrow
    have m1 := mulb (a := (σ.2 27 j).toInt) (b := (σ.2 28 k).toInt) (p := 1000000000) (q := 1000000000) (by omega) (by omega) (by omega) (by omega)
    have m2 := mulb (a := (σ.2 28 j).toInt) (b := (σ.2 27 k).toInt) (p := 1000000000) (q := 1000000000) (by omega) (by omega) (by omega) (by omega)
    have m3 := mulb (a := (σ.2 27 j).toInt) (b := (σ.2 27 k).toInt) (p := 1000000000) (q := 1000000000) (by omega) (by omega) (by omega) (by omega)
    have m4 := mulb (a := (σ.2 28 j).toInt) (b := (σ.2 28 k).toInt) (p := 1000000000) (q := 1000000000) (by omega) (by omega) (by omega) (by omega)
    refine z_aload_n (pc := 23) dX2_leastBeside_23 rfl ?_
    refine z_getR (pc := 24) (t := 27) dX2_leastBeside_24 fk_X2_9 rfl (by decide) (by decide) (by decide) rfl ?_
    refine z_iload_n (pc := 27) dX2_leastBeside_27 rfl ?_
    refine z_laldN (pc := 28) j dX2_leastBeside_28 rfl (by decide) hx (by show _ < 40; omega) ?_
    refine z_aload_n (pc := 29) dX2_leastBeside_29 rfl ?_
    refine z_getR (pc := 30) (t := 28) dX2_leastBeside_30 fk_X2_15 rfl (by decide) (by decide) (by decide) rfl ?_
    refine z_iload (pc := 33) dX2_leastBeside_33 rfl ?_
    refine z_laldN (pc := 35) k dX2_leastBeside_35 rfl (by decide) hk (by show _ < 40; omega) ?_
    refine z_lmulT (pc := 36) dX2_leastBeside_36 rfl rfl (by omega) (by omega) (fun v36 e36 => ?_)
    refine z_aload_n (pc := 37) dX2_leastBeside_37 rfl ?_
    refine z_getR (pc := 38) (t := 28) dX2_leastBeside_38 fk_X2_15 rfl (by decide) (by decide) (by decide) rfl ?_
    refine z_iload_n (pc := 41) dX2_leastBeside_41 rfl ?_
    refine z_laldN (pc := 42) j dX2_leastBeside_42 rfl (by decide) hx (by show _ < 40; omega) ?_
    refine z_aload_n (pc := 43) dX2_leastBeside_43 rfl ?_
    refine z_getR (pc := 44) (t := 27) dX2_leastBeside_44 fk_X2_9 rfl (by decide) (by decide) (by decide) rfl ?_
    refine z_iload (pc := 47) dX2_leastBeside_47 rfl ?_
    refine z_laldN (pc := 49) k dX2_leastBeside_49 rfl (by decide) hk (by show _ < 40; omega) ?_
    refine z_lmulT (pc := 50) dX2_leastBeside_50 rfl rfl (by omega) (by omega) (fun v50 e50 => ?_)
    refine z_lsubT (pc := 51) dX2_leastBeside_51 rfl rfl (by omega) (by omega) (fun v51 e51 => ?_)
    refine z_lstore (pc := 52) dX2_leastBeside_52 rfl rfl (by dsimp only [setI, setL, List.set]) ?_
    refine z_aload_n (pc := 54) dX2_leastBeside_54 rfl ?_
    refine z_getR (pc := 55) (t := 27) dX2_leastBeside_55 fk_X2_9 rfl (by decide) (by decide) (by decide) rfl ?_
    refine z_iload_n (pc := 58) dX2_leastBeside_58 rfl ?_
    refine z_laldN (pc := 59) j dX2_leastBeside_59 rfl (by decide) hx (by show _ < 40; omega) ?_
    refine z_aload_n (pc := 60) dX2_leastBeside_60 rfl ?_
    refine z_getR (pc := 61) (t := 27) dX2_leastBeside_61 fk_X2_9 rfl (by decide) (by decide) (by decide) rfl ?_
    refine z_iload (pc := 64) dX2_leastBeside_64 rfl ?_
    refine z_laldN (pc := 66) k dX2_leastBeside_66 rfl (by decide) hk (by show _ < 40; omega) ?_
    refine z_lmulT (pc := 67) dX2_leastBeside_67 rfl rfl (by omega) (by omega) (fun v67 e67 => ?_)
    refine z_aload_n (pc := 68) dX2_leastBeside_68 rfl ?_
    refine z_getR (pc := 69) (t := 28) dX2_leastBeside_69 fk_X2_15 rfl (by decide) (by decide) (by decide) rfl ?_
    refine z_iload_n (pc := 72) dX2_leastBeside_72 rfl ?_
    refine z_laldN (pc := 73) j dX2_leastBeside_73 rfl (by decide) hx (by show _ < 40; omega) ?_
    refine z_aload_n (pc := 74) dX2_leastBeside_74 rfl ?_
    refine z_getR (pc := 75) (t := 28) dX2_leastBeside_75 fk_X2_15 rfl (by decide) (by decide) (by decide) rfl ?_
    refine z_iload (pc := 78) dX2_leastBeside_78 rfl ?_
    refine z_laldN (pc := 80) k dX2_leastBeside_80 rfl (by decide) hk (by show _ < 40; omega) ?_
    refine z_lmulT (pc := 81) dX2_leastBeside_81 rfl rfl (by omega) (by omega) (fun v81 e81 => ?_)
    refine z_laddT (pc := 82) dX2_leastBeside_82 rfl rfl (by omega) (by omega) (fun v82 e82 => ?_)
    refine z_lstore (pc := 83) dX2_leastBeside_83 rfl rfl (by dsimp only [setI, setL, List.set]) ?_
    refine z_lload (pc := 85) dX2_leastBeside_85 rfl ?_
    refine z_lconst (pc := 87) (v := 0) dX2_leastBeside_87 (by decide) ?_
    refine zq_lc_le (pc := 88) (cy := 0) (tgt := 105) dX2_leastBeside_88 dX2_leastBeside_89 rfl rfl (by decide) (fun h88 => ?_) (fun h88 => ?_)
    · skip
      refine z_lload (pc := 105) dX2_leastBeside_105 rfl ?_
      refine z_lconst (pc := 107) (v := 0) dX2_leastBeside_107 (by decide) ?_
      refine zq_lc_ge (pc := 108) (cy := 0) (tgt := 127) dX2_leastBeside_108 dX2_leastBeside_109 rfl rfl (by decide) (fun h108 => ?_) (fun h108 => ?_)
      · skip
        refine z_lload (pc := 127) dX2_leastBeside_127 rfl ?_
        refine z_lconst (pc := 129) (v := 0) dX2_leastBeside_129 (by decide) ?_
        refine zq_lc_le (pc := 130) (cy := 0) (tgt := 149) dX2_leastBeside_130 dX2_leastBeside_131 rfl rfl (by decide) (fun h130 => ?_) (fun h130 => ?_)
        · skip
          refine z_lload (pc := 149) dX2_leastBeside_149 rfl ?_
          refine z_lconst (pc := 151) (v := 0) dX2_leastBeside_151 (by decide) ?_
          refine zq_lc_ge (pc := 152) (cy := 0) (tgt := 168) dX2_leastBeside_152 dX2_leastBeside_153 rfl rfl (by decide) (fun h152 => ?_) (fun h152 => ?_)
          · skip
            refine z_iincT (pc := 168) dX2_leastBeside_168 rfl rfl (by decide) (by decide) (by omega) (by omega) rfl rfl (fun v => by dsimp only [setI, setL, List.set]) (fun v168 e168 => ?_)
            refine z_goto (pc := 171) (tgt := 14) dX2_leastBeside_171 rfl ?_
            refine z_sub (L' := [some _, some _, some _, some _, some _, some _, some _, some _, none, none, none, none]) ⟨rfl, rfl, rfl, rfl, rfl, rfl, rfl, rfl, trivial⟩ ?_
            have ecr : v51.toInt = crV (V i) (V r) := by unfold crV; rw [e51, e36, e50, vi.1, vi.2, vk.1, vk.2]
            have edt : v82.toInt = dtV (V i) (V r) := by unfold dtV; rw [e82, e67, e81, vi.1, vi.2, vk.1, vk.2]
            have dl : wL V (w2 pt) (V i) r = (if 0 < crV (V i) (V r) then w2 pt r else 0) := rfl
            have dr : wR V (w2 pt) (V i) r = (if crV (V i) (V r) < 0 then w2 pt r else 0) := rfl
            have da : wA V (w2 pt) (V i) r = (if crV (V i) (V r) = 0 ∧ 0 < dtV (V i) (V r) then w2 pt r else 0) := rfl
            have db : wB V (w2 pt) (V i) r = (if crV (V i) (V r) = 0 ∧ dtV (V i) (V r) < 0 then w2 pt r else 0) := rfl
            exact ih (k + 1) xl xr xa xb v168 (by omega) (by omega) (by omega) (by rw [lsum_take hkr]; omega) (by rw [lsum_take hkr]; omega) (by rw [lsum_take hkr]; omega) (by rw [lsum_take hkr]; omega)
          · skip
            refine z_iload (pc := 156) dX2_leastBeside_156 rfl ?_
            refine z_aload_n (pc := 158) dX2_leastBeside_158 rfl ?_
            refine z_getR (pc := 159) (t := 17) dX2_leastBeside_159 fk_X2_35 rfl (by decide) (by decide) (by decide) rfl ?_
            refine z_iload (pc := 162) dX2_leastBeside_162 rfl ?_
            refine z_ialdN (pc := 164) k dX2_leastBeside_164 rfl (by decide) hk (by show _ < 40; omega) ?_
            refine z_iaddT (pc := 165) dX2_leastBeside_165 rfl rfl (by omega) (by omega) (fun v165 e165 => ?_)
            refine z_istore (pc := 166) dX2_leastBeside_166 rfl rfl (by dsimp only [setI, setL, List.set]) ?_
            refine z_iincT (pc := 168) dX2_leastBeside_168 rfl rfl (by decide) (by decide) (by omega) (by omega) rfl rfl (fun v => by dsimp only [setI, setL, List.set]) (fun v168 e168 => ?_)
            refine z_goto (pc := 171) (tgt := 14) dX2_leastBeside_171 rfl ?_
            refine z_sub (L' := [some _, some _, some _, some _, some _, some _, some _, some _, none, none, none, none]) ⟨rfl, rfl, rfl, rfl, rfl, rfl, rfl, rfl, trivial⟩ ?_
            have ecr : v51.toInt = crV (V i) (V r) := by unfold crV; rw [e51, e36, e50, vi.1, vi.2, vk.1, vk.2]
            have edt : v82.toInt = dtV (V i) (V r) := by unfold dtV; rw [e82, e67, e81, vi.1, vi.2, vk.1, vk.2]
            have dl : wL V (w2 pt) (V i) r = (if 0 < crV (V i) (V r) then w2 pt r else 0) := rfl
            have dr : wR V (w2 pt) (V i) r = (if crV (V i) (V r) < 0 then w2 pt r else 0) := rfl
            have da : wA V (w2 pt) (V i) r = (if crV (V i) (V r) = 0 ∧ 0 < dtV (V i) (V r) then w2 pt r else 0) := rfl
            have db : wB V (w2 pt) (V i) r = (if crV (V i) (V r) = 0 ∧ dtV (V i) (V r) < 0 then w2 pt r else 0) := rfl
            exact ih (k + 1) xl xr xa v165 v168 (by omega) (by omega) (by omega) (by rw [lsum_take hkr]; omega) (by rw [lsum_take hkr]; omega) (by rw [lsum_take hkr]; omega) (by rw [lsum_take hkr]; omega)
        · skip
          refine z_iload (pc := 134) dX2_leastBeside_134 rfl ?_
          refine z_aload_n (pc := 136) dX2_leastBeside_136 rfl ?_
          refine z_getR (pc := 137) (t := 17) dX2_leastBeside_137 fk_X2_35 rfl (by decide) (by decide) (by decide) rfl ?_
          refine z_iload (pc := 140) dX2_leastBeside_140 rfl ?_
          refine z_ialdN (pc := 142) k dX2_leastBeside_142 rfl (by decide) hk (by show _ < 40; omega) ?_
          refine z_iaddT (pc := 143) dX2_leastBeside_143 rfl rfl (by omega) (by omega) (fun v143 e143 => ?_)
          refine z_istore (pc := 144) dX2_leastBeside_144 rfl rfl (by dsimp only [setI, setL, List.set]) ?_
          refine z_goto (pc := 146) (tgt := 168) dX2_leastBeside_146 rfl ?_
          refine z_iincT (pc := 168) dX2_leastBeside_168 rfl rfl (by decide) (by decide) (by omega) (by omega) rfl rfl (fun v => by dsimp only [setI, setL, List.set]) (fun v168 e168 => ?_)
          refine z_goto (pc := 171) (tgt := 14) dX2_leastBeside_171 rfl ?_
          refine z_sub (L' := [some _, some _, some _, some _, some _, some _, some _, some _, none, none, none, none]) ⟨rfl, rfl, rfl, rfl, rfl, rfl, rfl, rfl, trivial⟩ ?_
          have ecr : v51.toInt = crV (V i) (V r) := by unfold crV; rw [e51, e36, e50, vi.1, vi.2, vk.1, vk.2]
          have edt : v82.toInt = dtV (V i) (V r) := by unfold dtV; rw [e82, e67, e81, vi.1, vi.2, vk.1, vk.2]
          have dl : wL V (w2 pt) (V i) r = (if 0 < crV (V i) (V r) then w2 pt r else 0) := rfl
          have dr : wR V (w2 pt) (V i) r = (if crV (V i) (V r) < 0 then w2 pt r else 0) := rfl
          have da : wA V (w2 pt) (V i) r = (if crV (V i) (V r) = 0 ∧ 0 < dtV (V i) (V r) then w2 pt r else 0) := rfl
          have db : wB V (w2 pt) (V i) r = (if crV (V i) (V r) = 0 ∧ dtV (V i) (V r) < 0 then w2 pt r else 0) := rfl
          exact ih (k + 1) xl xr v143 xb v168 (by omega) (by omega) (by omega) (by rw [lsum_take hkr]; omega) (by rw [lsum_take hkr]; omega) (by rw [lsum_take hkr]; omega) (by rw [lsum_take hkr]; omega)
      · skip
        refine z_iload (pc := 112) dX2_leastBeside_112 rfl ?_
        refine z_aload_n (pc := 114) dX2_leastBeside_114 rfl ?_
        refine z_getR (pc := 115) (t := 17) dX2_leastBeside_115 fk_X2_35 rfl (by decide) (by decide) (by decide) rfl ?_
        refine z_iload (pc := 118) dX2_leastBeside_118 rfl ?_
        refine z_ialdN (pc := 120) k dX2_leastBeside_120 rfl (by decide) hk (by show _ < 40; omega) ?_
        refine z_iaddT (pc := 121) dX2_leastBeside_121 rfl rfl (by omega) (by omega) (fun v121 e121 => ?_)
        refine z_istore (pc := 122) dX2_leastBeside_122 rfl rfl (by dsimp only [setI, setL, List.set]) ?_
        refine z_goto (pc := 124) (tgt := 168) dX2_leastBeside_124 rfl ?_
        refine z_iincT (pc := 168) dX2_leastBeside_168 rfl rfl (by decide) (by decide) (by omega) (by omega) rfl rfl (fun v => by dsimp only [setI, setL, List.set]) (fun v168 e168 => ?_)
        refine z_goto (pc := 171) (tgt := 14) dX2_leastBeside_171 rfl ?_
        refine z_sub (L' := [some _, some _, some _, some _, some _, some _, some _, some _, none, none, none, none]) ⟨rfl, rfl, rfl, rfl, rfl, rfl, rfl, rfl, trivial⟩ ?_
        have ecr : v51.toInt = crV (V i) (V r) := by unfold crV; rw [e51, e36, e50, vi.1, vi.2, vk.1, vk.2]
        have edt : v82.toInt = dtV (V i) (V r) := by unfold dtV; rw [e82, e67, e81, vi.1, vi.2, vk.1, vk.2]
        have dl : wL V (w2 pt) (V i) r = (if 0 < crV (V i) (V r) then w2 pt r else 0) := rfl
        have dr : wR V (w2 pt) (V i) r = (if crV (V i) (V r) < 0 then w2 pt r else 0) := rfl
        have da : wA V (w2 pt) (V i) r = (if crV (V i) (V r) = 0 ∧ 0 < dtV (V i) (V r) then w2 pt r else 0) := rfl
        have db : wB V (w2 pt) (V i) r = (if crV (V i) (V r) = 0 ∧ dtV (V i) (V r) < 0 then w2 pt r else 0) := rfl
        exact ih (k + 1) xl v121 xa xb v168 (by omega) (by omega) (by omega) (by rw [lsum_take hkr]; omega) (by rw [lsum_take hkr]; omega) (by rw [lsum_take hkr]; omega) (by rw [lsum_take hkr]; omega)
    · skip
      refine z_iload_n (pc := 92) dX2_leastBeside_92 rfl ?_
      refine z_aload_n (pc := 93) dX2_leastBeside_93 rfl ?_
      refine z_getR (pc := 94) (t := 17) dX2_leastBeside_94 fk_X2_35 rfl (by decide) (by decide) (by decide) rfl ?_
      refine z_iload (pc := 97) dX2_leastBeside_97 rfl ?_
      refine z_ialdN (pc := 99) k dX2_leastBeside_99 rfl (by decide) hk (by show _ < 40; omega) ?_
      refine z_iaddT (pc := 100) dX2_leastBeside_100 rfl rfl (by omega) (by omega) (fun v100 e100 => ?_)
      refine z_istore_n (pc := 101) dX2_leastBeside_101 rfl rfl (by dsimp only [setI, setL, List.set]) ?_
      refine z_goto (pc := 102) (tgt := 168) dX2_leastBeside_102 rfl ?_
      refine z_iincT (pc := 168) dX2_leastBeside_168 rfl rfl (by decide) (by decide) (by omega) (by omega) rfl rfl (fun v => by dsimp only [setI, setL, List.set]) (fun v168 e168 => ?_)
      refine z_goto (pc := 171) (tgt := 14) dX2_leastBeside_171 rfl ?_
      refine z_sub (L' := [some _, some _, some _, some _, some _, some _, some _, some _, none, none, none, none]) ⟨rfl, rfl, rfl, rfl, rfl, rfl, rfl, rfl, trivial⟩ ?_
      have ecr : v51.toInt = crV (V i) (V r) := by unfold crV; rw [e51, e36, e50, vi.1, vi.2, vk.1, vk.2]
      have edt : v82.toInt = dtV (V i) (V r) := by unfold dtV; rw [e82, e67, e81, vi.1, vi.2, vk.1, vk.2]
      have dl : wL V (w2 pt) (V i) r = (if 0 < crV (V i) (V r) then w2 pt r else 0) := rfl
      have dr : wR V (w2 pt) (V i) r = (if crV (V i) (V r) < 0 then w2 pt r else 0) := rfl
      have da : wA V (w2 pt) (V i) r = (if crV (V i) (V r) = 0 ∧ 0 < dtV (V i) (V r) then w2 pt r else 0) := rfl
      have db : wB V (w2 pt) (V i) r = (if crV (V i) (V r) = 0 ∧ dtV (V i) (V r) < 0 then w2 pt r else 0) := rfl
      exact ih (k + 1) v100 xr xa xb v168 (by omega) (by omega) (by omega) (by rw [lsum_take hkr]; omega) (by rw [lsum_take hkr]; omega) (by rw [lsum_take hkr]; omega) (by rw [lsum_take hkr]; omega)

theorem c_X2_leastBeside {l : Launch} {G : Gx} {d : Nat} {σ : Sg} {Q : Option Value → Sg → Prop} {n j i : Nat} {pt : Nat → Pt} {V : Nat → Int × Int} {x2 : Int32} (hS : okStand σ n pt) (hn : n ≤ 40) (hV : okV σ n pt V (prs n pt).length) (hb : bdV n pt V) (hi : (prs n pt)[j]? = some i) (hx : x2.toInt = (j : Int)) (h : ∀ r : Int32, r.toInt = dI (prs n pt) V (w2 pt) i → Q (some (.int r)) σ)  : Z l G M_X2_leastBeside (d + 1) 0 [some (.ref 26), some (.ref 11), some (.int x2)] [] σ Q := by
  refine z_sub (L' := [some (.ref 26), some (.ref 11), some (.int x2), none, none, none, none, none, none, none, none, none]) ⟨rfl, rfl, rfl, trivial⟩ ?_
  refine z_iconst (pc := 0) (v := 0) dX2_leastBeside_0 (by decide) ?_
  refine z_istore_n (pc := 1) dX2_leastBeside_1 rfl rfl (by dsimp only [setI, setL, List.set]) ?_
  refine z_iconst (pc := 2) (v := 0) dX2_leastBeside_2 (by decide) ?_
  refine z_istore (pc := 3) dX2_leastBeside_3 rfl rfl (by dsimp only [setI, setL, List.set]) ?_
  refine z_iconst (pc := 5) (v := 0) dX2_leastBeside_5 (by decide) ?_
  refine z_istore (pc := 6) dX2_leastBeside_6 rfl rfl (by dsimp only [setI, setL, List.set]) ?_
  refine z_iconst (pc := 8) (v := 0) dX2_leastBeside_8 (by decide) ?_
  refine z_istore (pc := 9) dX2_leastBeside_9 rfl rfl (by dsimp only [setI, setL, List.set]) ?_
  refine z_iconst (pc := 11) (v := 0) dX2_leastBeside_11 (by decide) ?_
  refine z_istore (pc := 12) dX2_leastBeside_12 rfl rfl (by dsimp only [setI, setL, List.set]) ?_
  exact c_beside_loop hS hn hV hb hi hx h ((prs n pt).length + 1) 0 0 0 0 0 0 (by decide) (by omega) (by omega) rfl rfl rfl rfl

theorem vAt_bd {n : Nat} {pt : Nat → Pt} {x y dd : Int} (hP : ∀ i, i < n → ptOk (pt i)) (bx : -500000000 ≤ x ∧ x ≤ 500000000) (by' : -500000000 ≤ y ∧ y ≤ 500000000) (bd : 0 ≤ dd ∧ dd ≤ 1000000) : bdV n pt (vAt pt x y dd) := fun i hi => by
  have hp := hP i (prs_mem.mp hi).1
  unfold ptOk at hp
  have m1 := mulb (a := (pt i).1.toInt) (b := dd) (p := 300) (q := 1000000) (by omega) (by omega) (by omega) (by omega)
  have m2 := mulb (a := (pt i).2.1.toInt) (b := dd) (p := 300) (q := 1000000) (by omega) (by omega) (by omega) (by omega)
  unfold vAt
  dsimp only
  omega

theorem c_depth_loop2 {l : Launch} {G : Gx} {d : Nat} {σ : Sg} {Q : Option Value → Sg → Prop} {n : Nat} {pt : Nat → Pt} {x y dd : Int} {px py pd : Int64} {en : Int32} {xh : Int32} (hS : okStand σ n pt) (hn : n ≤ 40) (hP : ∀ i, i < n → ptOk (pt i)) (ex : px.toInt = x) (ey : py.toInt = y) (ed : pd.toInt = dd) (bx : -500000000 ≤ x ∧ x ≤ 500000000) (by' : -500000000 ≤ y ∧ y ≤ 500000000) (bd : 0 ≤ dd ∧ dd ≤ 1000000) (hV : okV σ n pt (vAt pt x y dd) (prs n pt).length) (hh : xh.toInt = lsum (prs n pt) (wH (vAt pt x y dd) (w2 pt))) (h : ∀ (r : Int32) (τ : Sg), (r.toInt = dep (prs n pt) (vAt pt x y dd) (w2 pt) ∨ (dep (prs n pt) (vAt pt x y dd) (w2 pt) ≤ r.toInt ∧ r.toInt < en.toInt)) → eqX 27 28 σ τ → Q (some (.int r)) τ) : ∀ (f j : Nat) (xi xj : Int32), xj.toInt = (j : Int) → j ≤ (prs n pt).length → (prs n pt).length - j < f → xi.toInt = dPart (prs n pt) (vAt pt x y dd) (w2 pt) j → Z l G M_X2_depthAt (d + 2) 93 [some (.ref 26), some (.ref 11), some (.long px), none, some (.long py), none, some (.long pd), none, some (.int en), some (.int xh), some (.int xi), some (.int xj)] [] σ Q := by
  intro f
  induction f with
  | zero => intro j xi xj hj hjl hfu hl; omega
  | succ f ih =>
  intro j xi xj hj hjl hfu hl
  have hpl := prs_len n pt
  have hm := hS.1
  have hbv := vAt_bd (n := n) (pt := pt) hP bx by' bd
  have hr := dPart_rng (prs n pt) pt (vAt pt x y dd) j
  have hhr := (lsumX_rng (prs n pt) pt (vAt pt x y dd) (0, 0)).2.2.2.2
  have hle := dPart_le (prs n pt) (vAt pt x y dd) (w2 pt) j
  refine z_iload (pc := 93) dX2_depthAt_93 rfl ?_
  refine z_aload_n (pc := 95) dX2_depthAt_95 rfl ?_
  refine z_getI (pc := 96) dX2_depthAt_96 fk_X2_18 rfl (by decide) (by decide) (by decide) ?_
  refine zq_icmp_ge (pc := 99) (tgt := 141) dX2_depthAt_99 rfl rfl rfl (fun h99 => ?_) (fun h99 => ?_)
  · skip
    refine z_iload (pc := 141) dX2_depthAt_141 rfl ?_
    refine z_iret (pc := 143) dX2_depthAt_143 rfl ?_
    first
    | exact h _ _ (Or.inr ⟨by omega, by omega⟩) eqX_rf
    | (have ej : j = (prs n pt).length := by omega
       subst ej
       refine h _ _ (Or.inl ?_) eqX_rf
       rw [hl]
       unfold dPart dep
       rw [List.take_length])
  · skip
    refine z_iload (pc := 102) dX2_depthAt_102 rfl ?_
    refine z_iload (pc := 104) dX2_depthAt_104 rfl ?_
    refine zq_icmp_lt (pc := 106) (tgt := 141) dX2_depthAt_106 rfl rfl rfl (fun h106 => ?_) (fun h106 => ?_)
    · skip
      refine z_iload (pc := 141) dX2_depthAt_141 rfl ?_
      refine z_iret (pc := 143) dX2_depthAt_143 rfl ?_
      first
      | exact h _ _ (Or.inr ⟨by omega, by omega⟩) eqX_rf
      | (have ej : j = (prs n pt).length := by omega
         subst ej
         refine h _ _ (Or.inl ?_) eqX_rf
         rw [hl]
         unfold dPart dep
         rw [List.take_length])
    · skip
      obtain ⟨i, hi⟩ := prs_get (pt := pt) (n := n) (j := j) (by omega)
      have vi := hV j i (by omega) hi
      have hdr := dI_rng (prs n pt) pt (vAt pt x y dd) i
      have hst := dPart_step (V := vAt pt x y dd) (w := w2 pt) hi
      unfold dStep at hst
      refine z_aload_n (pc := 109) dX2_depthAt_109 rfl ?_
      refine z_iload (pc := 110) dX2_depthAt_110 rfl ?_
      refine z_iv1 (pc := 112) dX2_depthAt_112 kv_X2_31 rfl (by decide) (by decide) rfl rfl ?_
      refine c_X2_isHere (j := j) (by omega) hj (fun q => ?_) (fun q => ?_)
      · skip
        refine z_if_ne (pc := 115) (tgt := 135) dX2_depthAt_115 rfl (fun _ => ?_) (fun hc => absurd hc (by decide))
        refine z_iincT (pc := 135) dX2_depthAt_135 rfl rfl (by decide) (by decide) (by omega) (by omega) rfl rfl (fun v => by dsimp only [setI, setL, List.set]) (fun v135 e135 => ?_)
        refine z_goto (pc := 138) (tgt := 93) dX2_depthAt_138 rfl ?_
        rw [if_pos (by omega)] at hst
        exact ih (j + 1) xi v135 (by omega) (by omega) (by omega) (by rw [hst]; exact hl)
      · skip
        refine z_if_ne (pc := 115) (tgt := 135) dX2_depthAt_115 rfl (fun hc => absurd hc (by decide)) (fun _ => ?_)
        refine z_iload (pc := 118) dX2_depthAt_118 rfl ?_
        refine z_iload (pc := 120) dX2_depthAt_120 rfl ?_
        refine z_aload_n (pc := 122) dX2_depthAt_122 rfl ?_
        refine z_aload_n (pc := 123) dX2_depthAt_123 rfl ?_
        refine z_iload (pc := 124) dX2_depthAt_124 rfl ?_
        refine z_iv2 (pc := 126) dX2_depthAt_126 kv_X2_42 rfl (by decide) (by decide) rfl rfl ?_
        refine c_X2_leastBeside hS hn hV hbv hi hj (fun rb erb => ?_)
        refine z_iaddT (pc := 129) dX2_depthAt_129 rfl rfl (by omega) (by omega) (fun v129 e129 => ?_)
        refine z_mminiT (pc := 130) dX2_depthAt_130 kj_X2_46 rfl rfl rfl (fun v130 e130 => ?_)
        refine z_istore (pc := 133) dX2_depthAt_133 rfl rfl (by dsimp only [setI, setL, List.set]) ?_
        refine z_iincT (pc := 135) dX2_depthAt_135 rfl rfl (by decide) (by decide) (by omega) (by omega) rfl rfl (fun v => by dsimp only [setI, setL, List.set]) (fun v135 e135 => ?_)
        refine z_goto (pc := 138) (tgt := 93) dX2_depthAt_138 rfl ?_
        rw [if_neg (by omega)] at hst
        exact ih (j + 1) v130 v135 (by omega) (by omega) (by omega) (by rw [hst]; omega)

theorem c_depth_loop1 {l : Launch} {G : Gx} {d : Nat} {σ : Sg} {Q : Option Value → Sg → Prop} {n : Nat} {pt : Nat → Pt} {x y dd : Int} {px py pd : Int64} {en : Int32} (hS : okStand σ n pt) (hn : n ≤ 40) (hP : ∀ i, i < n → ptOk (pt i)) (ex : px.toInt = x) (ey : py.toInt = y) (ed : pd.toInt = dd) (bx : -500000000 ≤ x ∧ x ≤ 500000000) (by' : -500000000 ≤ y ∧ y ≤ 500000000) (bd : 0 ≤ dd ∧ dd ≤ 1000000) (h : ∀ (r : Int32) (τ : Sg), (r.toInt = dep (prs n pt) (vAt pt x y dd) (w2 pt) ∨ (dep (prs n pt) (vAt pt x y dd) (w2 pt) ≤ r.toInt ∧ r.toInt < en.toInt)) → eqX 27 28 σ τ → Q (some (.int r)) τ) : ∀ (f j : Nat) (xh xi : Int32) (τ : Sg), xi.toInt = (j : Int) → j ≤ (prs n pt).length → (prs n pt).length - j < f → xh.toInt = lsum ((prs n pt).take j) (wH (vAt pt x y dd) (w2 pt)) → okV τ n pt (vAt pt x y dd) j → eqX 27 28 σ τ → Z l G M_X2_depthAt (d + 2) 6 [some (.ref 26), some (.ref 11), some (.long px), none, some (.long py), none, some (.long pd), none, some (.int en), some (.int xh), some (.int xi), none] [] τ Q := by
  intro f
  induction f with
  | zero => intro j xh xi τ hj hjl hfu hh hV hE; omega
  | succ f ih =>
  intro j xh xi τ hj hjl hfu hh hV hE
  have hpl := prs_len n pt
  have hSt : okStand τ n pt := okStand_cong (c := True) (fun o h1 h3 => hE o (by omega)) (fun _ => hS) trivial
  have hm := hSt.1
  have hhr := (lsumX_rng ((prs n pt).take j) pt (vAt pt x y dd) (0, 0)).2.2.2.2
  rw [List.length_take] at hhr
  refine z_iload (pc := 6) dX2_depthAt_6 rfl ?_
  refine z_aload_n (pc := 8) dX2_depthAt_8 rfl ?_
  refine z_getI (pc := 9) dX2_depthAt_9 fk_X2_18 rfl (by decide) (by decide) (by decide) ?_
  refine zq_icmp_ge (pc := 12) (tgt := 83) dX2_depthAt_12 rfl rfl rfl (fun h12 => ?_) (fun h12 => ?_)
  · skip
    refine z_aload_n (pc := 83) dX2_depthAt_83 rfl ?_
    refine z_iconst (pc := 84) (v := 2) dX2_depthAt_84 (by decide) ?_
    refine z_iv1 (pc := 85) dX2_depthAt_85 kv_X2_38 rfl (by decide) (by decide) rfl rfl ?_
    refine c_X7_total (w := 2) (by decide) (by decide) hSt hn (fun rt ert => ?_)
    refine z_istore (pc := 88) dX2_depthAt_88 rfl rfl (by dsimp only [setI, setL, List.set]) ?_
    refine z_iconst (pc := 90) (v := 0) dX2_depthAt_90 (by decide) ?_
    refine z_istore (pc := 91) dX2_depthAt_91 rfl rfl (by dsimp only [setI, setL, List.set]) ?_
    rw [take_all (by omega)] at hh
    have ej : j = (prs n pt).length := by omega
    subst ej
    exact c_depth_loop2 hSt hn hP ex ey ed bx by' bd hV hh (fun r υ hor uE => h r υ hor (eqX_tr hE uE)) ((prs n pt).length + 1) 0 rt 0 (by decide) (by omega) (by omega) (by rw [ert]; rfl)
  · skip
    obtain ⟨i, hi⟩ := prs_get (pt := pt) (n := n) (j := j) (by omega)
    have hxy := st_xy hSt hi
    have hok := st_ok hP hi
    have hrow := st_row hSt (w := 2) (by decide) hi
    change (τ.1 17 j).toInt = w2 pt i at hrow
    have hw := w2_rng pt i
    have m1 := mulb (a := (τ.1 13 j).toInt) (b := pd.toInt) (p := 300) (q := 1000000) (by omega) (by omega) (by omega) (by omega)
    have m2 := mulb (a := (τ.1 14 j).toInt) (b := pd.toInt) (p := 300) (q := 1000000) (by omega) (by omega) (by omega) (by omega)
    refine z_aload_n (pc := 15) dX2_depthAt_15 rfl ?_
    refine z_getR (pc := 16) (t := 27) dX2_depthAt_16 fk_X2_9 rfl (by decide) (by decide) (by decide) rfl ?_
    refine z_iload (pc := 19) dX2_depthAt_19 rfl ?_
    refine z_aload_n (pc := 21) dX2_depthAt_21 rfl ?_
    refine z_getR (pc := 22) (t := 13) dX2_depthAt_22 fk_X2_24 rfl (by decide) (by decide) (by decide) rfl ?_
    refine z_iload (pc := 25) dX2_depthAt_25 rfl ?_
    refine z_ialdN (pc := 27) j dX2_depthAt_27 rfl (by decide) hj (by show _ < 40; omega) ?_
    refine z_i2lT (pc := 28) dX2_depthAt_28 rfl (fun v28 e28 => ?_)
    refine z_lload (pc := 29) dX2_depthAt_29 rfl ?_
    refine z_lmulT (pc := 31) dX2_depthAt_31 rfl rfl (by rw [e28]; omega) (by rw [e28]; omega) (fun v31 e31 => ?_)
    refine z_lload_n (pc := 32) dX2_depthAt_32 rfl ?_
    refine z_lsubT (pc := 33) dX2_depthAt_33 rfl rfl (by rw [e31, e28]; omega) (by rw [e31, e28]; omega) (fun v33 e33 => ?_)
    refine z_lastN (pc := 34) j dX2_depthAt_34 rfl (by decide) hj (by show _ < 40; omega) ?_
    refine z_aload_n (pc := 35) dX2_depthAt_35 rfl ?_
    refine z_getR (pc := 36) (t := 28) dX2_depthAt_36 fk_X2_15 rfl (by decide) (by decide) (by decide) rfl ?_
    refine z_iload (pc := 39) dX2_depthAt_39 rfl ?_
    refine z_aload_n (pc := 41) dX2_depthAt_41 rfl ?_
    refine z_getR (pc := 42) (t := 14) dX2_depthAt_42 fk_X2_28 rfl (by decide) (by decide) (by decide) rfl ?_
    refine z_iload (pc := 45) dX2_depthAt_45 rfl ?_
    refine z_ialdN (pc := 47) j dX2_depthAt_47 rfl (by decide) hj (by show _ < 40; omega) ?_
    refine z_i2lT (pc := 48) dX2_depthAt_48 rfl (fun v48 e48 => ?_)
    refine z_lload (pc := 49) dX2_depthAt_49 rfl ?_
    refine z_lmulT (pc := 51) dX2_depthAt_51 rfl rfl (by rw [e48]; show _ ≤ (τ.1 14 j).toInt * _; omega) (by rw [e48]; show (τ.1 14 j).toInt * _ < _; omega) (fun v51 e51 => ?_)
    refine z_lload (pc := 52) dX2_depthAt_52 rfl ?_
    refine z_lsubT (pc := 54) dX2_depthAt_54 rfl rfl (by rw [e51, e48]; show _ ≤ (τ.1 14 j).toInt * _ - _; omega) (by rw [e51, e48]; show (τ.1 14 j).toInt * _ - _ < _; omega) (fun v54 e54 => ?_)
    refine z_lastN (pc := 55) j dX2_depthAt_55 rfl (by decide) hj (by show _ < 40; omega) ?_
    refine z_aload_n (pc := 56) dX2_depthAt_56 rfl ?_
    refine z_iload (pc := 57) dX2_depthAt_57 rfl ?_
    refine z_iv1 (pc := 59) dX2_depthAt_59 kv_X2_31 rfl (by decide) (by decide) rfl rfl ?_
    have hV' : okV (uJ (uJ τ 27 j v33) 28 j v54) n pt (vAt pt x y dd) (j + 1) := fun k r hk hr => by
      rcases Nat.lt_or_ge k j with h9 | h9
      · rw [uJ_row (by omega), uJ_nk (by omega), uJ_nk (by omega), uJ_row (by omega)]; exact hV k r h9 hr
      · have e9 : k = j := by omega
        subst e9
        rw [hi] at hr
        cases hr
        rw [uJ_row (by omega), uJ_eq, uJ_eq, e33, e54, e31, e51, e28, e48]
        unfold vAt
        rw [← hxy.1, ← hxy.2, ex, ey, ed]
        exact ⟨rfl, rfl⟩
    have vi := hV' j i (by omega) hi
    have eh : wH (vAt pt x y dd) (w2 pt) i = (if (vAt pt x y dd i).1 = 0 ∧ (vAt pt x y dd i).2 = 0 then w2 pt i else 0) := rfl
    refine c_X2_isHere (j := j) (by omega) hj (fun q => ?_) (fun q => ?_)
    · skip
      refine z_if_eq (pc := 62) (tgt := 77) dX2_depthAt_62 rfl (fun hc => absurd hc (by decide)) (fun _ => ?_)
      have hrow9 : ((uJ (uJ τ 27 j v33) 28 j v54).1 17 j).toInt = w2 pt i := hrow
      refine z_iload (pc := 65) dX2_depthAt_65 rfl ?_
      refine z_aload_n (pc := 67) dX2_depthAt_67 rfl ?_
      refine z_getR (pc := 68) (t := 17) dX2_depthAt_68 fk_X2_35 rfl (by decide) (by decide) (by decide) rfl ?_
      refine z_iload (pc := 71) dX2_depthAt_71 rfl ?_
      refine z_ialdN (pc := 73) j dX2_depthAt_73 rfl (by decide) hj (by show _ < 40; omega) ?_
      refine z_iaddT (pc := 74) dX2_depthAt_74 rfl rfl (by omega) (by omega) (fun v74 e74 => ?_)
      refine z_istore (pc := 75) dX2_depthAt_75 rfl rfl (by dsimp only [setI, setL, List.set]) ?_
      refine z_iincT (pc := 77) dX2_depthAt_77 rfl rfl (by decide) (by decide) (by omega) (by omega) rfl rfl (fun v => by dsimp only [setI, setL, List.set]) (fun v77 e77 => ?_)
      refine z_goto (pc := 80) (tgt := 6) dX2_depthAt_80 rfl ?_
      rw [if_pos (by omega)] at eh
      exact ih (j + 1) v74 v77 _ (by omega) (by omega) (by omega) (by rw [lsum_take hi]; omega) hV' (eqX_uJ (eqX_uJ hE (by omega) (by omega)) (by omega) (by omega))
    · skip
      refine z_if_eq (pc := 62) (tgt := 77) dX2_depthAt_62 rfl (fun _ => ?_) (fun hc => absurd hc (by decide))
      refine z_iincT (pc := 77) dX2_depthAt_77 rfl rfl (by decide) (by decide) (by omega) (by omega) rfl rfl (fun v => by dsimp only [setI, setL, List.set]) (fun v77 e77 => ?_)
      refine z_goto (pc := 80) (tgt := 6) dX2_depthAt_80 rfl ?_
      rw [if_neg (by omega)] at eh
      exact ih (j + 1) xh v77 _ (by omega) (by omega) (by omega) (by rw [lsum_take hi]; omega) hV' (eqX_uJ (eqX_uJ hE (by omega) (by omega)) (by omega) (by omega))

theorem c_X2_depthAt {l : Launch} {G : Gx} {d : Nat} {σ : Sg} {Q : Option Value → Sg → Prop} {n : Nat} {pt : Nat → Pt} {x y dd : Int} {px py pd : Int64} {en : Int32} (hS : okStand σ n pt) (hn : n ≤ 40) (hP : ∀ i, i < n → ptOk (pt i)) (ex : px.toInt = x) (ey : py.toInt = y) (ed : pd.toInt = dd) (bx : -500000000 ≤ x ∧ x ≤ 500000000) (by' : -500000000 ≤ y ∧ y ≤ 500000000) (bd : 0 ≤ dd ∧ dd ≤ 1000000) (h : ∀ (r : Int32) (τ : Sg), (r.toInt = dep (prs n pt) (vAt pt x y dd) (w2 pt) ∨ (dep (prs n pt) (vAt pt x y dd) (w2 pt) ≤ r.toInt ∧ r.toInt < en.toInt)) → eqX 27 28 σ τ → Q (some (.int r)) τ)  : Z l G M_X2_depthAt (d + 2) 0 [some (.ref 26), some (.ref 11), some (.long px), none, some (.long py), none, some (.long pd), none, some (.int en)] [] σ Q := by
  refine z_sub (L' := [some (.ref 26), some (.ref 11), some (.long px), none, some (.long py), none, some (.long pd), none, some (.int en), none, none, none]) ⟨rfl, rfl, rfl, rfl, rfl, rfl, trivial⟩ ?_
  refine z_iconst (pc := 0) (v := 0) dX2_depthAt_0 (by decide) ?_
  refine z_istore (pc := 1) dX2_depthAt_1 rfl rfl (by dsimp only [setI, setL, List.set]) ?_
  refine z_iconst (pc := 3) (v := 0) dX2_depthAt_3 (by decide) ?_
  refine z_istore (pc := 4) dX2_depthAt_4 rfl rfl (by dsimp only [setI, setL, List.set]) ?_
  exact c_depth_loop1 hS hn hP ex ey ed bx by' bd h ((prs n pt).length + 1) 0 0 0 σ (by decide) (by omega) (by omega) rfl (fun k r hk => absurd hk (by omega)) eqX_rf

def sDepth (a : Ab) (x y z : Int32) : Int := if ¬ (-1000000 ≤ x.toInt ∧ x.toInt ≤ 1000000 ∧ -1000000 ≤ y.toInt ∧ y.toInt ≤ 1000000 ∧ 1 ≤ z.toInt ∧ z.toInt ≤ 1000) then -1000001 else depA a.1.1 a.1.2 (x.toInt, y.toInt, z.toInt)
theorem rC_dv {σ τ : Sg} {a : Ab} (h : rC σ a) (hE : eqX 27 28 σ τ) : rC τ a := by
  obtain ⟨r1, r2, r3, r4, r5, r6, r7, r8⟩ := h
  refine ⟨rcP_cong (by rw [(hE 0 (by omega)).1]) (fun i hi => (hE _ (by omega)).1) r1, rcB_cong (fun o h1 h2 => hE o (by omega)) r2, by rw [(hE 0 (by omega)).1]; exact r3, rcT_cong (fun o h1 h2 => (hE o (by omega)).1) r4, rcL_cong (hE 10 (by omega)).1 r5, rcU_cong (hE 4 (by omega)).1 (hE 5 (by omega)).1 r6, ⟨?_, ?_, ?_, ?_, ?_⟩, fun o h1 h2 => by rw [(hE o (by omega)).1]; exact r8 o h1 h2⟩
  · rw [(hE 11 (by omega)).1]; exact okStand_cong (fun o h1 h2 => hE o (by omega)) r7.1
  · rw [(hE 18 (by omega)).1]; exact okLines_cong (fun o h1 h2 => hE o (by omega)) r7.2.1
  · rw [(hE 24 (by omega)).1]; exact okLayers_cong (fun o h1 h2 => hE o (by omega)) r7.2.2.1
  · rw [(hE 26 (by omega)).1]
    intro hc
    have := r7.2.2.2.1 hc
    unfold okDepths at this ⊢
    rw [(hE 26 (by omega)).1, (hE 26 (by omega)).2]
    exact this
  · rw [(hE 29 (by omega)).1]; exact okStrips_cong (fun o h1 h2 => hE o (by omega)) r7.2.2.2.2

theorem c_X10_depth {l : Launch} {G : Gx} {d : Nat} {σ : Sg} {Q : Option Value → Sg → Prop} {a : Ab} {x1 x2 x3 : Int32} (hr : rC σ a) (hk : abOk a) (h : ∀ (r : Int32) (τ : Sg), r.toInt = sDepth a x1 x2 x3 → rC τ a → eqM σ τ → Q (some (.int r)) τ) : Z l G M_X10_depth (d + 3) 0 [some (.ref 0), some (.int x1), some (.int x2), some (.int x3)] [] σ Q := by
  refine z_sub (L' := [some (.ref 0), some (.int x1), some (.int x2), some (.int x3)]) ⟨rfl, rfl, rfl, rfl, trivial⟩ ?_
  refine z_iload_n (pc := 0) dX10_depth_0 rfl ?_
  refine z_i2lT (pc := 1) dX10_depth_1 rfl (fun v1 e1 => ?_)
  refine z_ldc2 (pc := 2) dX10_depth_2 kc_X10_223 ?_
  refine z_is2 (pc := 5) dX10_depth_5 ks_X10_225 rfl rfl ?_
  refine c_X10_isWithin (by decide) (fun q5 => ?_) (fun q5 => ?_)
  · skip
    refine z_if_eq (pc := 8) (tgt := 34) dX10_depth_8 rfl (fun hc => absurd hc (by decide)) (fun _ => ?_)
    refine z_iload_n (pc := 11) dX10_depth_11 rfl ?_
    refine z_i2lT (pc := 12) dX10_depth_12 rfl (fun v12 e12 => ?_)
    refine z_ldc2 (pc := 13) dX10_depth_13 kc_X10_223 ?_
    refine z_is2 (pc := 16) dX10_depth_16 ks_X10_225 rfl rfl ?_
    refine c_X10_isWithin (by decide) (fun q16 => ?_) (fun q16 => ?_)
    · skip
      refine z_if_eq (pc := 19) (tgt := 34) dX10_depth_19 rfl (fun hc => absurd hc (by decide)) (fun _ => ?_)
      refine z_iload_n (pc := 22) dX10_depth_22 rfl ?_
      refine z_iconst (pc := 23) (v := 1) dX10_depth_23 (by decide) ?_
      refine zq_icmp_lt (pc := 24) (cy := 1) (tgt := 34) dX10_depth_24 rfl rfl (by decide) (fun h24 => ?_) (fun h24 => ?_)
      · skip
        refine z_ldc (pc := 34) dX10_depth_34 kc_X10_92 ?_
        refine z_iret (pc := 36) dX10_depth_36 rfl ?_
        have fm : (1000000 : Int64).toInt = 1000000 := rfl
        exact h _ _ (if_pos (by omega) : sDepth a x1 x2 x3 = _).symm hr eqM_rf
      · skip
        refine z_iload_n (pc := 27) dX10_depth_27 rfl ?_
        refine z_sipush (pc := 28) (v := 1000) dX10_depth_28 (by decide) ?_
        refine zq_icmp_le (pc := 31) (cy := 1000) (tgt := 37) dX10_depth_31 rfl rfl (by decide) (fun h31 => ?_) (fun h31 => ?_)
        · skip
          have fm : (1000000 : Int64).toInt = 1000000 := rfl
          refine z_aload_n (pc := 37) dX10_depth_37 rfl ?_
          refine z_getR (pc := 38) (t := 26) dX10_depth_38 fk_X10_73 rfl (by decide) (by decide) (by decide) rfl ?_
          refine z_aload_n (pc := 41) dX10_depth_41 rfl ?_
          refine z_iv0 (pc := 42) dX10_depth_42 kv_X10_165 rfl (by decide) (by decide) rfl rfl ?_
          refine c_X10_gathered hk.1 hr.1 hr.2.2.2.2.2.2.1.1 (fun τ hS hkn hE => ?_)
          have hrt := rC_gath hr hE hS
          refine z_iload_n (pc := 45) dX10_depth_45 rfl ?_
          refine z_i2lT (pc := 46) dX10_depth_46 rfl (fun v46 e46 => ?_)
          refine z_iload_n (pc := 47) dX10_depth_47 rfl ?_
          refine z_i2lT (pc := 48) dX10_depth_48 rfl (fun v48 e48 => ?_)
          refine z_iload_n (pc := 49) dX10_depth_49 rfl ?_
          refine z_i2lT (pc := 50) dX10_depth_50 rfl (fun v50 e50 => ?_)
          refine z_iconst (pc := 51) (v := 0) dX10_depth_51 (by decide) ?_
          refine z_iv5 (pc := 52) dX10_depth_52 kv_X10_265 rfl (by decide) (by decide) rfl rfl ?_
          refine c_X2_depthAt (x := x1.toInt) (y := x2.toInt) (dd := x3.toInt) hS hk.1 hk.2.1 (by assumption) (by assumption) (by assumption) (by omega) (by omega) (by omega) (fun rd υ hor uE => ?_)
          have hd0 := dep_ge0 (prs a.1.1 a.1.2) a.1.2 (vAt a.1.2 x1.toInt x2.toInt x3.toInt)
          have h00 : (0 : Int32).toInt = 0 := rfl
          refine z_iret (pc := 55) dX10_depth_55 rfl ?_
          exact h _ _ (by rw [show sDepth a x1 x2 x3 = _ from if_neg (by omega)]; show _ = dep (prs a.1.1 a.1.2) (vAt a.1.2 x1.toInt x2.toInt x3.toInt) (w2 a.1.2); omega) (rC_dv hrt uE) (eqM_tr (eqX_M hE (by omega) (by omega)) (eqX_M uE (by omega) (by omega)))
        · skip
          refine z_ldc (pc := 34) dX10_depth_34 kc_X10_92 ?_
          refine z_iret (pc := 36) dX10_depth_36 rfl ?_
          have fm : (1000000 : Int64).toInt = 1000000 := rfl
          exact h _ _ (if_pos (by omega) : sDepth a x1 x2 x3 = _).symm hr eqM_rf
    · skip
      refine z_if_eq (pc := 19) (tgt := 34) dX10_depth_19 rfl (fun _ => ?_) (fun hc => absurd hc (by decide))
      refine z_ldc (pc := 34) dX10_depth_34 kc_X10_92 ?_
      refine z_iret (pc := 36) dX10_depth_36 rfl ?_
      have fm : (1000000 : Int64).toInt = 1000000 := rfl
      exact h _ _ (if_pos (by omega) : sDepth a x1 x2 x3 = _).symm hr eqM_rf
  · skip
    refine z_if_eq (pc := 8) (tgt := 34) dX10_depth_8 rfl (fun _ => ?_) (fun hc => absurd hc (by decide))
    refine z_ldc (pc := 34) dX10_depth_34 kc_X10_92 ?_
    refine z_iret (pc := 36) dX10_depth_36 rfl ?_
    have fm : (1000000 : Int64).toInt = 1000000 := rfl
    exact h _ _ (if_pos (by omega) : sDepth a x1 x2 x3 = _).symm hr eqM_rf
