/-! the model's furrows -/
def thr (pt : Nat → Pt) (i : Nat) : Bool := !(pt i).2.2.2.2
def okMF (n : Nat) (pt : Nat → Pt) (z : Nat × Nat) : Bool := thr pt z.1 && thr pt z.2 && (okf n pt z && okp (prs n pt) pt z)
def okMA (pt : Nat → Pt) (z : Nat × Nat) : Bool := thr pt z.1 && thr pt z.2 && apt (pt z.1) (pt z.2)
theorem mrange_all (n : Nat) (pt : Nat → Pt) (ok : Nat × Nat → Bool) : allA (List.range n) (fun z => thr pt z.1 && thr pt z.2 && ok z) n n = (prl (prs n pt)).filter ok := by
  have h := allA_all (P := List.range n) (ok := fun z => thr pt z.1 && thr pt z.2 && ok z)
  rw [List.length_range] at h
  rw [h, prl_filter]
  rfl
theorem FUR_all (n : Nat) (pt : Nat → Pt) : allA (List.range n) (okMF n pt) n n = FUR n pt := by
  refine (mrange_all n pt (fun z => okf n pt z && okp (prs n pt) pt z)).trans ?_
  unfold FUR LPR
  rw [List.filter_filter]
theorem LPR_none (n : Nat) (pt : Nat → Pt) : LPR (prs n pt) pt = [] ↔ allA (List.range n) (okMA pt) n n = [] := by
  have e := mrange_all n pt (fun z => apt (pt z.1) (pt z.2))
  show _ ↔ allA (List.range n) (fun z => thr pt z.1 && thr pt z.2 && apt (pt z.1) (pt z.2)) n n = []
  rw [e]
  constructor
  · intro h
    rw [List.filter_eq_nil_iff]
    intro z hz ha
    have hm := prl_mem hz
    obtain ⟨y, hy, -⟩ := fp_any (prs_sorted n pt) hm.1 hm.2 ha
    rw [h] at hy
    cases hy
  · intro h
    unfold LPR
    rw [List.filter_eq_nil_iff] at h ⊢
    intro z hz ha
    unfold okp at ha
    rw [Bool.and_eq_true] at ha
    exact h z hz ha.1
theorem rowA_r {n i j : Nat} {ok : Nat × Nat → Bool} (hi : i < n) (hj : j < n) (hij : i < j) : rowA (List.range n) ok i (j + 1) = rowA (List.range n) ok i j ++ (if ok (i, j) = true then [(i, j)] else []) :=
  rowA_succ (List.getElem?_range hi) (List.getElem?_range hj) hij
theorem rowA_nil {P : List Nat} {ok : Nat × Nat → Bool} {i : Nat} (h : ∀ q, ok (P.getD i 0, q) = false) : ∀ j, rowA P ok i j = []
  | 0 => rfl
  | j + 1 => by
    show rowA P ok i j ++ _ = []
    rw [rowA_nil h j, if_neg (by rw [h]; simp)]
    rfl
theorem rowA_pre {P : List Nat} {ok : Nat × Nat → Bool} {i j : Nat} : ∀ m, j ≤ m → rowA P ok i j <+: rowA P ok i m
  | 0, h => by rw [show j = 0 by omega]; exact List.prefix_rfl
  | m + 1, h => by
    rcases Nat.lt_or_ge j (m + 1) with h1 | h1
    · exact (rowA_pre m (by omega)).trans ⟨_, rfl⟩
    · rw [show j = m + 1 by omega]; exact List.prefix_rfl
theorem allA_pre {P : List Nat} {ok : Nat × Nat → Bool} {m i : Nat} : ∀ k, i ≤ k → allA P ok m i <+: allA P ok m k
  | 0, h => by rw [show i = 0 by omega]; exact List.prefix_rfl
  | k + 1, h => by
    rcases Nat.lt_or_ge i (k + 1) with h1 | h1
    · exact (allA_pre k (by omega)).trans ⟨_, rfl⟩
    · rw [show i = k + 1 by omega]; exact List.prefix_rfl
theorem pair_pre {P : List Nat} {ok : Nat × Nat → Bool} {m i j : Nat} (hj : j ≤ m) (hi : i < m) : allA P ok m i ++ rowA P ok i j <+: allA P ok m m :=
  ((List.prefix_append_right_inj _).mpr (rowA_pre m hj)).trans (allA_pre (i := i + 1) m hi)
/-- the pair that comes next among all -/
theorem pair_next {n i j : Nat} {ok : Nat × Nat → Bool} (hi : i < n) (hj : j < n) (hij : i < j) (h : ok (i, j) = true) : (allA (List.range n) ok n n)[(allA (List.range n) ok n i ++ rowA (List.range n) ok i j).length]? = some (i, j) := by
  obtain ⟨t, ht⟩ := pair_pre (P := List.range n) (ok := ok) (m := n) (i := i) (j := j + 1) (by omega) hi
  rw [rowA_r hi hj hij, if_pos h, ← List.append_assoc] at ht
  rw [← ht, List.append_assoc, List.getElem?_append_right (Nat.le_refl _), Nat.sub_self]
  rfl
theorem thr_mem {n i : Nat} {pt : Nat → Pt} : i ∈ prs n pt ↔ i < n ∧ thr pt i = true := by
  rw [prs_mem]; unfold thr; simp
theorem thr_of {pt : Nat → Pt} {i : Nat} {v : Int32} (h : v = if (pt i).2.2.2.2 then 1 else 0) (h0 : v.toInt = 0) : thr pt i = true := by
  unfold thr; rw [mthere_of h h0]; rfl
theorem thr_no {pt : Nat → Pt} {i : Nat} {v : Int32} (h : v = if (pt i).2.2.2.2 then 1 else 0) (h0 : v.toInt ≠ 0) : thr pt i = false := by
  unfold thr; rw [maway_of h h0]; rfl
/-- whether no pair has been found yet -/
def oneI (y : Int32) (L : List (Nat × Nat)) : Prop := (y.toInt = 1 ∧ L = []) ∨ (y.toInt = 0 ∧ L ≠ [])

theorem c_mff_in {l : Launch} {G : Gx} {d : Nat} {σ : Sg} {Q : Option Value → Sg → Prop} {n p : Nat} {pt : Nat → Pt} {x1 x4 : Int32} (hQ : rmQ σ n pt) (hp : p < n) (hx : x4.toInt = (p : Int)) (h : ∀ (r : Int32) (τ : Sg), FrQ σ τ → (((x1.toInt < 0 ∨ nFur n pt ≤ x1.toInt) ∧ r.toInt = nFur n pt) ∨ ∃ k : Nat, x1.toInt = (k : Int) ∧ (k : Int) < nFur n pt ∧ r.toInt = (k : Int) + 1 ∧ isLnM τ (kFur n pt k)) → Q (some (.int r)) τ) (hnext : ∀ (τ : Sg) (x2 x3 x5 : Int32), (x2.toInt = ((allA (List.range n) (okMF n pt) n (p + 1)).length : Int)) → oneI x3 (allA (List.range n) (okMA pt) n (p + 1)) → (x1.toInt < 0 ∨ x2.toInt ≤ x1.toInt) → FrQ σ τ →  Z l G M_X11_findFurrow (d + 8) 109 [some (.ref 1), some (.int x1), some (.int x2), some (.int x3), some (.int x4), some (.int x5)] [] τ Q) : ∀ (f q : Nat) (τ : Sg) (x2 x3 x5 : Int32), x5.toInt = (q : Int) → p < q → q ≤ n → n - q < f → (x2.toInt = ((allA (List.range n) (okMF n pt) n p ++ rowA (List.range n) (okMF n pt) p q).length : Int)) → oneI x3 (allA (List.range n) (okMA pt) n p ++ rowA (List.range n) (okMA pt) p q) → (x1.toInt < 0 ∨ x2.toInt ≤ x1.toInt) → FrQ σ τ →  Z l G M_X11_findFurrow (d + 8) 22 [some (.ref 1), some (.int x1), some (.int x2), some (.int x3), some (.int x4), some (.int x5)] [] τ Q := by
  intro f
  induction f with
  | zero => intro q τ x2 x3 x5 hy hpq hq hfu hl ho hw hF; omega
  | succ f ih =>
  intro q τ x2 x3 x5 hy hpq hq hfu hl ho hw hF
  have hQt := rmQ_Fr hQ hF
  have hg := hQt.2.1.1
  have hn := hQ.1
  have hap := (hQt.2.1.2 p hp).2.2.2.2
  refine z_iload (pc := 22) dX11_findFurrow_22 rfl ?_
  refine z_aload_n (pc := 24) dX11_findFurrow_24 rfl ?_
  refine z_getI (pc := 25) dX11_findFurrow_25 fk_X11_101 rfl (by decide) (by decide) (by decide) ?_
  refine zq_icmp_ge (pc := 28) (tgt := 109) dX11_findFurrow_28 rfl rfl rfl (fun h28 => ?_) (fun h28 => ?_)
  · skip
    first
    | (have e : q = n := by omega
       subst e
       exact hnext τ x2 x3 x5 hl ho hw hF)
    | (have e1 : rowA (List.range n) (okMF n pt) p n = [] := rowA_nil (fun y => by rw [getD_some (List.getElem?_range hp)]; show (thr pt p && _ && _) = false; rw [thr_no hap h38]; rfl) n
       have e2 : rowA (List.range n) (okMA pt) p n = [] := rowA_nil (fun y => by rw [getD_some (List.getElem?_range hp)]; show (thr pt p && _ && _) = false; rw [thr_no hap h38]; rfl) n
       have e3 : rowA (List.range n) (okMF n pt) p q = [] := rowA_nil (fun y => by rw [getD_some (List.getElem?_range hp)]; show (thr pt p && _ && _) = false; rw [thr_no hap h38]; rfl) q
       have e4 : rowA (List.range n) (okMA pt) p q = [] := rowA_nil (fun y => by rw [getD_some (List.getElem?_range hp)]; show (thr pt p && _ && _) = false; rw [thr_no hap h38]; rfl) q
       rw [e3] at hl
       rw [e4] at ho
       exact hnext τ x2 x3 x5 (by show _ = ((allA (List.range n) (okMF n pt) n p ++ rowA (List.range n) (okMF n pt) p n).length : Int); rw [e1]; exact hl) (by show oneI _ (allA (List.range n) (okMA pt) n p ++ rowA (List.range n) (okMA pt) p n); rw [e2]; exact ho) hw hF)
  · skip
    refine z_aload_n (pc := 31) dX11_findFurrow_31 rfl ?_
    refine z_getR (pc := 32) (t := 35) dX11_findFurrow_32 fk_X11_22 rfl (by decide) (by decide) (by decide) rfl ?_
    refine z_iload (pc := 35) dX11_findFurrow_35 rfl ?_
    refine z_zaldN (pc := 37) p dX11_findFurrow_37 rfl (by decide) hx (by show _ < 40; omega) ?_
    refine zq_if_ne (pc := 38) (tgt := 109) dX11_findFurrow_38 rfl rfl (fun h38 => ?_) (fun h38 => ?_)
    · skip
      first
      | (have e : q = n := by omega
         subst e
         exact hnext τ x2 x3 x5 hl ho hw hF)
      | (have e1 : rowA (List.range n) (okMF n pt) p n = [] := rowA_nil (fun y => by rw [getD_some (List.getElem?_range hp)]; show (thr pt p && _ && _) = false; rw [thr_no hap h38]; rfl) n
         have e2 : rowA (List.range n) (okMA pt) p n = [] := rowA_nil (fun y => by rw [getD_some (List.getElem?_range hp)]; show (thr pt p && _ && _) = false; rw [thr_no hap h38]; rfl) n
         have e3 : rowA (List.range n) (okMF n pt) p q = [] := rowA_nil (fun y => by rw [getD_some (List.getElem?_range hp)]; show (thr pt p && _ && _) = false; rw [thr_no hap h38]; rfl) q
         have e4 : rowA (List.range n) (okMA pt) p q = [] := rowA_nil (fun y => by rw [getD_some (List.getElem?_range hp)]; show (thr pt p && _ && _) = false; rw [thr_no hap h38]; rfl) q
         rw [e3] at hl
         rw [e4] at ho
         exact hnext τ x2 x3 x5 (by show _ = ((allA (List.range n) (okMF n pt) n p ++ rowA (List.range n) (okMF n pt) p n).length : Int); rw [e1]; exact hl) (by show oneI _ (allA (List.range n) (okMA pt) n p ++ rowA (List.range n) (okMA pt) p n); rw [e2]; exact ho) hw hF)
    · skip
      have haq := (hQt.2.1.2 q (by omega)).2.2.2.2
      have hrm := pair_room (P := List.range n) (ok := (okMF n pt)) (m := n) (i := p) (j := q) (by omega) hpq (by omega)
      have hrF := rowA_r (n := n) (i := p) (j := q) (ok := (okMF n pt)) hp (by omega) hpq
      have hrA := rowA_r (n := n) (i := p) (j := q) (ok := (okMA pt)) hp (by omega) hpq
      refine z_aload_n (pc := 41) dX11_findFurrow_41 rfl ?_
      refine z_getR (pc := 42) (t := 35) dX11_findFurrow_42 fk_X11_22 rfl (by decide) (by decide) (by decide) rfl ?_
      refine z_iload (pc := 45) dX11_findFurrow_45 rfl ?_
      refine z_zaldN (pc := 47) q dX11_findFurrow_47 rfl (by decide) hy (by show _ < 40; omega) ?_
      refine zq_if_ne (pc := 48) (tgt := 103) dX11_findFurrow_48 rfl rfl (fun h48 => ?_) (fun h48 => ?_)
      · skip
        refine z_iincT (pc := 103) dX11_findFurrow_103 rfl rfl (by decide) (by decide) (by omega) (by omega) rfl rfl (fun v => by dsimp only [setI, setL, List.set]) (fun v103 e103 => ?_)
        refine z_goto (pc := 106) (tgt := 22) dX11_findFurrow_106 rfl ?_
        have hA : ¬ okMA pt (p, q) = true := by
          show ¬ (thr pt p && thr pt q && apt (pt p) (pt q)) = true
          first | (rw [qa]; simp) | (rw [thr_no haq h48]; simp)
        have hok : ¬ okMF n pt (p, q) = true := by
          show ¬ (thr pt p && thr pt q && ((hlv n pt 0 (lnO pt (p, q)) && hlv n pt 1 (lnO pt (p, q))) && (apt (pt p) (pt q) && fstP (prs n pt) pt p q))) = true
          first | (rw [qa]; simp) | (rw [thr_no haq h48]; simp)
        rw [if_neg hA, List.append_nil] at hrA
        rw [if_neg hok, List.append_nil] at hrF
        exact ih (q + 1) τ x2 x3 v103 (by omega) (by omega) (by omega) (by omega) (by rw [hrF]; exact hl) (by rw [hrA]; exact ho) hw hF
      · skip
        refine z_aload_n (pc := 51) dX11_findFurrow_51 rfl ?_
        refine z_iload (pc := 52) dX11_findFurrow_52 rfl ?_
        refine z_iload (pc := 54) dX11_findFurrow_54 rfl ?_
        refine z_iv2 (pc := 56) dX11_findFurrow_56 kv_X11_200 rfl (by decide) (by decide) rfl rfl ?_
        refine c_mapart hQt hp (by omega) hx hy (fun qa => ?_) (fun qa => ?_)
        · skip
          refine z_if_eq (pc := 59) (tgt := 103) dX11_findFurrow_59 rfl (fun hc => absurd hc (by decide)) (fun _ => ?_)
          refine z_iconst (pc := 62) (v := 0) dX11_findFurrow_62 (by decide) ?_
          refine z_istore_n (pc := 63) dX11_findFurrow_63 rfl rfl (by dsimp only [setI, setL, List.set]) ?_
          refine z_aload_n (pc := 64) dX11_findFurrow_64 rfl ?_
          refine z_iload (pc := 65) dX11_findFurrow_65 rfl ?_
          refine z_iload (pc := 67) dX11_findFurrow_67 rfl ?_
          refine z_iv2 (pc := 69) dX11_findFurrow_69 kv_X11_223 rfl (by decide) (by decide) rfl rfl ?_
          have hpP : p ∈ prs n pt := thr_mem.mpr ⟨hp, thr_of hap h38⟩
          have hqP : q ∈ prs n pt := thr_mem.mpr ⟨by omega, thr_of haq h48⟩
          have hA : okMA pt (p, q) = true := by show (thr pt p && thr pt q && apt (pt p) (pt q)) = true; rw [thr_of hap h38, thr_of haq h48, qa]; rfl
          rw [if_pos hA] at hrA
          refine c_X11_isFirst hQt hpP hqP hpq qa hx hy (fun υ hL uF qf => ?_) (fun υ uF qf => ?_)
          · skip
            refine z_if_eq (pc := 72) (tgt := 103) dX11_findFurrow_72 rfl (fun hc => absurd hc (by decide)) (fun _ => ?_)
            refine z_aload_n (pc := 75) dX11_findFurrow_75 rfl ?_
            refine z_iconst (pc := 76) (v := 0) dX11_findFurrow_76 (by decide) ?_
            refine z_iv1 (pc := 77) dX11_findFurrow_77 kv_X11_220 rfl (by decide) (by decide) rfl rfl ?_
            refine c_X11_isHalved (w := 0) (rmQ_Fr hQt uF) hL (by have := lnO_ab hQ.2.2.1 hp (show q < n by omega) qa; omega) (by decide) (by decide) (fun q0 => ?_) (fun q0 => ?_)
            · skip
              refine z_if_eq (pc := 80) (tgt := 103) dX11_findFurrow_80 rfl (fun hc => absurd hc (by decide)) (fun _ => ?_)
              refine z_aload_n (pc := 83) dX11_findFurrow_83 rfl ?_
              refine z_iconst (pc := 84) (v := 1) dX11_findFurrow_84 (by decide) ?_
              refine z_iv1 (pc := 85) dX11_findFurrow_85 kv_X11_220 rfl (by decide) (by decide) rfl rfl ?_
              refine c_X11_isHalved (w := 1) (rmQ_Fr hQt uF) hL (by have := lnO_ab hQ.2.2.1 hp (show q < n by omega) qa; omega) (by decide) (by decide) (fun q1 => ?_) (fun q1 => ?_)
              · skip
                refine z_if_eq (pc := 88) (tgt := 103) dX11_findFurrow_88 rfl (fun hc => absurd hc (by decide)) (fun _ => ?_)
                refine z_iload_n (pc := 91) dX11_findFurrow_91 rfl ?_
                refine z_iload_n (pc := 92) dX11_findFurrow_92 rfl ?_
                refine zq_icmp_ne (pc := 93) (tgt := 100) dX11_findFurrow_93 rfl rfl rfl (fun h93 => ?_) (fun h93 => ?_)
                · skip
                  refine z_iincT (pc := 100) dX11_findFurrow_100 rfl rfl (by decide) (by decide) (by omega) (by omega) rfl rfl (fun v => by dsimp only [setI, setL, List.set]) (fun v100 e100 => ?_)
                  refine z_iincT (pc := 103) dX11_findFurrow_103 rfl rfl (by decide) (by decide) (by omega) (by omega) rfl rfl (fun v => by dsimp only [setI, setL, List.set]) (fun v103 e103 => ?_)
                  refine z_goto (pc := 106) (tgt := 22) dX11_findFurrow_106 rfl ?_
                  have hok : okMF n pt (p, q) = true := by show (thr pt p && thr pt q && ((hlv n pt 0 (lnO pt (p, q)) && hlv n pt 1 (lnO pt (p, q))) && (apt (pt p) (pt q) && fstP (prs n pt) pt p q))) = true; rw [thr_of hap h38, thr_of haq h48, qa, qf, q0, q1]; rfl
                  rw [if_pos hok] at hrF
                  exact ih (q + 1) υ v100 0 v103 (by omega) (by omega) (by omega) (by omega) (by rw [hrF, ← List.append_assoc, List.length_append]; simp only [List.length_cons, List.length_nil]; omega) (Or.inr ⟨(rfl : (0 : Int32).toInt = 0), by rw [hrA]; simp⟩) (by omega) (FrQ_tr hF uF)
                · skip
                  refine z_iload_n (pc := 96) dX11_findFurrow_96 rfl ?_
                  refine z_iconst (pc := 97) (v := 1) dX11_findFurrow_97 (by decide) ?_
                  refine z_iaddT (pc := 98) (cy := 1) dX11_findFurrow_98 rfl (by decide) (by omega) (by omega) (fun v98 e98 => ?_)
                  refine z_iret (pc := 99) dX11_findFurrow_99 rfl ?_
                  have hok : okMF n pt (p, q) = true := by show (thr pt p && thr pt q && ((hlv n pt 0 (lnO pt (p, q)) && hlv n pt 1 (lnO pt (p, q))) && (apt (pt p) (pt q) && fstP (prs n pt) pt p q))) = true; rw [thr_of hap h38, thr_of haq h48, qa, qf, q0, q1]; rfl
                  have hnx := pair_next (n := n) (i := p) (j := q) (ok := okMF n pt) hp (by omega) hpq hok
                  rw [FUR_all] at hnx
                  have hlen := (List.getElem?_eq_some_iff.mp hnx).1
                  have hne : LPR (prs n pt) pt ≠ [] := fun z => by
                    have hf : FUR n pt = [] := by unfold FUR; rw [z]; rfl
                    rw [hf] at hlen
                    exact absurd hlen (Nat.not_lt_zero _)
                  have hnf : nFur n pt = ((FUR n pt).length : Int) := if_neg hne
                  refine h _ _ (FrQ_tr hF uF) (Or.inr ⟨(allA (List.range n) (okMF n pt) n p ++ rowA (List.range n) (okMF n pt) p q).length, by omega, by omega, by omega, ?_⟩)
                  have ekf : kFur n pt (allA (List.range n) (okMF n pt) n p ++ rowA (List.range n) (okMF n pt) p q).length = lnO pt (p, q) := by unfold kFur; rw [if_neg hne, List.getD_eq_getElem?_getD, hnx]; rfl
                  rw [ekf]
                  exact hL
              · skip
                refine z_if_eq (pc := 88) (tgt := 103) dX11_findFurrow_88 rfl (fun _ => ?_) (fun hc => absurd hc (by decide))
                refine z_iincT (pc := 103) dX11_findFurrow_103 rfl rfl (by decide) (by decide) (by omega) (by omega) rfl rfl (fun v => by dsimp only [setI, setL, List.set]) (fun v103 e103 => ?_)
                refine z_goto (pc := 106) (tgt := 22) dX11_findFurrow_106 rfl ?_
                have hok : ¬ okMF n pt (p, q) = true := by
                  show ¬ (thr pt p && thr pt q && ((hlv n pt 0 (lnO pt (p, q)) && hlv n pt 1 (lnO pt (p, q))) && (apt (pt p) (pt q) && fstP (prs n pt) pt p q))) = true
                  first | (rw [q1]; simp; done) | (rw [q0]; simp; done) | (rw [qf]; simp; done)
                rw [if_neg hok, List.append_nil] at hrF
                exact ih (q + 1) υ x2 0 v103 (by omega) (by omega) (by omega) (by omega) (by rw [hrF]; exact hl) (Or.inr ⟨(rfl : (0 : Int32).toInt = 0), by rw [hrA]; simp⟩) hw (FrQ_tr hF uF)
            · skip
              refine z_if_eq (pc := 80) (tgt := 103) dX11_findFurrow_80 rfl (fun _ => ?_) (fun hc => absurd hc (by decide))
              refine z_iincT (pc := 103) dX11_findFurrow_103 rfl rfl (by decide) (by decide) (by omega) (by omega) rfl rfl (fun v => by dsimp only [setI, setL, List.set]) (fun v103 e103 => ?_)
              refine z_goto (pc := 106) (tgt := 22) dX11_findFurrow_106 rfl ?_
              have hok : ¬ okMF n pt (p, q) = true := by
                show ¬ (thr pt p && thr pt q && ((hlv n pt 0 (lnO pt (p, q)) && hlv n pt 1 (lnO pt (p, q))) && (apt (pt p) (pt q) && fstP (prs n pt) pt p q))) = true
                first | (rw [q1]; simp; done) | (rw [q0]; simp; done) | (rw [qf]; simp; done)
              rw [if_neg hok, List.append_nil] at hrF
              exact ih (q + 1) υ x2 0 v103 (by omega) (by omega) (by omega) (by omega) (by rw [hrF]; exact hl) (Or.inr ⟨(rfl : (0 : Int32).toInt = 0), by rw [hrA]; simp⟩) hw (FrQ_tr hF uF)
          · skip
            refine z_if_eq (pc := 72) (tgt := 103) dX11_findFurrow_72 rfl (fun _ => ?_) (fun hc => absurd hc (by decide))
            refine z_iincT (pc := 103) dX11_findFurrow_103 rfl rfl (by decide) (by decide) (by omega) (by omega) rfl rfl (fun v => by dsimp only [setI, setL, List.set]) (fun v103 e103 => ?_)
            refine z_goto (pc := 106) (tgt := 22) dX11_findFurrow_106 rfl ?_
            have hok : ¬ okMF n pt (p, q) = true := by
              show ¬ (thr pt p && thr pt q && ((hlv n pt 0 (lnO pt (p, q)) && hlv n pt 1 (lnO pt (p, q))) && (apt (pt p) (pt q) && fstP (prs n pt) pt p q))) = true
              first | (rw [q1]; simp; done) | (rw [q0]; simp; done) | (rw [qf]; simp; done)
            rw [if_neg hok, List.append_nil] at hrF
            exact ih (q + 1) υ x2 0 v103 (by omega) (by omega) (by omega) (by omega) (by rw [hrF]; exact hl) (Or.inr ⟨(rfl : (0 : Int32).toInt = 0), by rw [hrA]; simp⟩) hw (FrQ_tr hF uF)
        · skip
          refine z_if_eq (pc := 59) (tgt := 103) dX11_findFurrow_59 rfl (fun _ => ?_) (fun hc => absurd hc (by decide))
          refine z_iincT (pc := 103) dX11_findFurrow_103 rfl rfl (by decide) (by decide) (by omega) (by omega) rfl rfl (fun v => by dsimp only [setI, setL, List.set]) (fun v103 e103 => ?_)
          refine z_goto (pc := 106) (tgt := 22) dX11_findFurrow_106 rfl ?_
          have hA : ¬ okMA pt (p, q) = true := by
            show ¬ (thr pt p && thr pt q && apt (pt p) (pt q)) = true
            first | (rw [qa]; simp) | (rw [thr_no haq h48]; simp)
          have hok : ¬ okMF n pt (p, q) = true := by
            show ¬ (thr pt p && thr pt q && ((hlv n pt 0 (lnO pt (p, q)) && hlv n pt 1 (lnO pt (p, q))) && (apt (pt p) (pt q) && fstP (prs n pt) pt p q))) = true
            first | (rw [qa]; simp) | (rw [thr_no haq h48]; simp)
          rw [if_neg hA, List.append_nil] at hrA
          rw [if_neg hok, List.append_nil] at hrF
          exact ih (q + 1) τ x2 x3 v103 (by omega) (by omega) (by omega) (by omega) (by rw [hrF]; exact hl) (by rw [hrA]; exact ho) hw hF

theorem c_mff_out {l : Launch} {G : Gx} {d : Nat} {σ : Sg} {Q : Option Value → Sg → Prop} {n : Nat} {pt : Nat → Pt} {x1 : Int32} (hQ : rmQ σ n pt) (hm : 0 < (prs n pt).length) (h : ∀ (r : Int32) (τ : Sg), FrQ σ τ → (((x1.toInt < 0 ∨ nFur n pt ≤ x1.toInt) ∧ r.toInt = nFur n pt) ∨ ∃ k : Nat, x1.toInt = (k : Int) ∧ (k : Int) < nFur n pt ∧ r.toInt = (k : Int) + 1 ∧ isLnM τ (kFur n pt k)) → Q (some (.int r)) τ) : ∀ (f p : Nat) (τ : Sg) (x2 x3 x4 : Int32) (y : Option Value), x4.toInt = (p : Int) → p ≤ n → n - p < f → (x2.toInt = ((allA (List.range n) (okMF n pt) n p).length : Int)) → oneI x3 (allA (List.range n) (okMA pt) n p) → (x1.toInt < 0 ∨ x2.toInt ≤ x1.toInt) → FrQ σ τ →  Z l G M_X11_findFurrow (d + 8) 7 [some (.ref 1), some (.int x1), some (.int x2), some (.int x3), some (.int x4), y] [] τ Q := by
  intro f
  induction f with
  | zero => intro p τ x2 x3 x4 y hx hp hfu hl ho hw hF; omega
  | succ f ih =>
  intro p τ x2 x3 x4 y hx hp hfu hl ho hw hF
  refine z_sub (L' := [some _, some _, some _, some _, some _, none]) ⟨rfl, rfl, rfl, rfl, rfl, trivial⟩ ?_
  have hQt := rmQ_Fr hQ hF
  have hg := hQt.2.1.1
  have hn := hQ.1
  refine z_iload (pc := 7) dX11_findFurrow_7 rfl ?_
  refine z_aload_n (pc := 9) dX11_findFurrow_9 rfl ?_
  refine z_getI (pc := 10) dX11_findFurrow_10 fk_X11_101 rfl (by decide) (by decide) (by decide) ?_
  refine zq_icmp_ge (pc := 13) (tgt := 115) dX11_findFurrow_13 rfl rfl rfl (fun h13 => ?_) (fun h13 => ?_)
  · skip
    have e : p = n := by omega
    subst e
    rw [FUR_all] at hl
    have hlp := LPR_none p pt
    refine z_iload_n (pc := 115) dX11_findFurrow_115 rfl ?_
    refine zq_if_eq (pc := 116) (tgt := 146) dX11_findFurrow_116 rfl rfl (fun h116 => ?_) (fun h116 => ?_)
    · skip
      refine z_iload_n (pc := 146) dX11_findFurrow_146 rfl ?_
      refine z_iret (pc := 147) dX11_findFurrow_147 rfl ?_
      first
      | (rcases ho with ⟨o1, o2⟩ | ⟨o1, o2⟩
         · omega
         have hne : LPR (prs p pt) pt ≠ [] := fun z => o2 (hlp.mp z)
         have hnf : nFur p pt = ((FUR p pt).length : Int) := if_neg hne
         exact h _ _ hF (Or.inl ⟨by omega, by omega⟩))
      | (rcases ho with ⟨o1, o2⟩ | ⟨o1, o2⟩
         rotate_left
         · omega
         have hem : LPR (prs p pt) pt = [] := hlp.mpr o2
         have hnf : nFur p pt = 1 := if_pos hem
         have hr1 : (1 : Int32).toInt = 1 := rfl
         have hFF := FrQ_tr hF (FrQ_uJ1 (v := v140) (k := 25) (FrQ_uJ1 (v := 1) (k := 24) (FrQ_uJ1 (v := 0) (k := 23) FrQ_rf (by omega)) (by omega)) (by omega))
         by_cases h0 : x1.toInt = 0
         · refine h _ _ hFF (Or.inr ⟨0, by omega, by omega, by omega, ?_⟩)
           unfold kFur
           rw [if_pos hem, getD_some hp0]
           refine ⟨?_, ?_, ?_⟩
           · simp (disch := omega) only [uJ_row, uJ_1, uJ_nk, uJ_no, uJ_eq]; rfl
           · simp (disch := omega) only [uJ_row, uJ_1, uJ_nk, uJ_no, uJ_eq]; rfl
           · rw [uJ_eq, e140, e139]
             show -(τ.1 32 p0).toInt = _
             rw [hpy]
         · exact h _ _ hFF (Or.inl ⟨by omega, by omega⟩))
    · skip
      refine z_aload_n (pc := 119) dX11_findFurrow_119 rfl ?_
      refine z_lconst (pc := 120) (v := 0) dX11_findFurrow_120 (by decide) ?_
      refine z_putJ (pc := 121) dX11_findFurrow_121 fk_X11_191 rfl (by decide) (by decide) (by decide) ?_
      refine z_aload_n (pc := 124) dX11_findFurrow_124 rfl ?_
      refine z_lconst (pc := 125) (v := 1) dX11_findFurrow_125 (by decide) ?_
      refine z_putJ (pc := 126) dX11_findFurrow_126 fk_X11_194 rfl (by decide) (by decide) (by decide) ?_
      refine z_aload_n (pc := 129) dX11_findFurrow_129 rfl ?_
      refine z_aload_n (pc := 130) dX11_findFurrow_130 rfl ?_
      refine z_getR (pc := 131) (t := 32) dX11_findFurrow_131 fk_X11_13 rfl (by decide) (by decide) (by decide) rfl ?_
      refine z_aload_n (pc := 134) dX11_findFurrow_134 rfl ?_
      refine z_iv0 (pc := 135) dX11_findFurrow_135 kv_X11_226 rfl (by decide) (by decide) rfl rfl ?_
      refine c_X11_firstThere (rmQ_Fr hQt (FrQ_uJ1 (FrQ_uJ1 FrQ_rf (by omega)) (by omega))) hm (fun p0 r0 hp0 er0 => ?_)
      have hp0n := (prs_at hp0).1
      have hpy := (hQt.2.1.2 p0 hp0n).2.1
      have hpo := hQ.2.2.1 p0 hp0n
      unfold ptOk at hpo
      refine z_ialdN (pc := 138) p0 dX11_findFurrow_138 rfl (by decide) er0 (by show _ < 40; omega) ?_
      have eyy : (τ.1 32 p0).toInt = (pt p0).2.1.toInt := by rw [hpy]
      refine z_inegT (pc := 139) dX11_findFurrow_139 rfl (by show _ ≤ -(τ.1 32 p0).toInt; omega) (by show -(τ.1 32 p0).toInt < _; omega) (fun v139 e139 => ?_)
      refine z_i2lT (pc := 140) dX11_findFurrow_140 rfl (fun v140 e140 => ?_)
      refine z_putJ (pc := 141) dX11_findFurrow_141 fk_X11_197 rfl (by decide) (by decide) (by decide) ?_
      refine z_iconst (pc := 144) (v := 1) dX11_findFurrow_144 (by decide) ?_
      refine z_istore_n (pc := 145) dX11_findFurrow_145 rfl rfl (by dsimp only [setI, setL, List.set]) ?_
      refine z_iload_n (pc := 146) dX11_findFurrow_146 rfl ?_
      refine z_iret (pc := 147) dX11_findFurrow_147 rfl ?_
      first
      | (rcases ho with ⟨o1, o2⟩ | ⟨o1, o2⟩
         · omega
         have hne : LPR (prs p pt) pt ≠ [] := fun z => o2 (hlp.mp z)
         have hnf : nFur p pt = ((FUR p pt).length : Int) := if_neg hne
         exact h _ _ hF (Or.inl ⟨by omega, by omega⟩))
      | (rcases ho with ⟨o1, o2⟩ | ⟨o1, o2⟩
         rotate_left
         · omega
         have hem : LPR (prs p pt) pt = [] := hlp.mpr o2
         have hnf : nFur p pt = 1 := if_pos hem
         have hr1 : (1 : Int32).toInt = 1 := rfl
         have hFF := FrQ_tr hF (FrQ_uJ1 (v := v140) (k := 25) (FrQ_uJ1 (v := 1) (k := 24) (FrQ_uJ1 (v := 0) (k := 23) FrQ_rf (by omega)) (by omega)) (by omega))
         by_cases h0 : x1.toInt = 0
         · refine h _ _ hFF (Or.inr ⟨0, by omega, by omega, by omega, ?_⟩)
           unfold kFur
           rw [if_pos hem, getD_some hp0]
           refine ⟨?_, ?_, ?_⟩
           · simp (disch := omega) only [uJ_row, uJ_1, uJ_nk, uJ_no, uJ_eq]; rfl
           · simp (disch := omega) only [uJ_row, uJ_1, uJ_nk, uJ_no, uJ_eq]; rfl
           · rw [uJ_eq, e140, e139]
             show -(τ.1 32 p0).toInt = _
             rw [hpy]
         · exact h _ _ hFF (Or.inl ⟨by omega, by omega⟩))
  · skip
    refine z_iload (pc := 16) dX11_findFurrow_16 rfl ?_
    refine z_iconst (pc := 18) (v := 1) dX11_findFurrow_18 (by decide) ?_
    refine z_iaddT (pc := 19) (cy := 1) dX11_findFurrow_19 rfl (by decide) (by omega) (by omega) (fun v19 e19 => ?_)
    refine z_istore (pc := 20) dX11_findFurrow_20 rfl rfl (by dsimp only [setI, setL, List.set]) ?_
    refine c_mff_in hQ (by omega) hx h ?_ (n + 1) (p + 1) τ x2 x3 v19 (by omega) (by omega) (by omega) (by omega) (by rw [rowA_no (p + 1) (Nat.le_refl _), List.append_nil]; exact hl) (by rw [rowA_no (p + 1) (Nat.le_refl _), List.append_nil]; exact ho) hw hF
    intro υ y2 y3 y5 ul uo uw uF
    refine z_iincT (pc := 109) dX11_findFurrow_109 rfl rfl (by decide) (by decide) (by omega) (by omega) rfl rfl (fun v => by dsimp only [setI, setL, List.set]) (fun v109 e109 => ?_)
    refine z_goto (pc := 112) (tgt := 7) dX11_findFurrow_112 rfl ?_
    exact ih (p + 1) υ y2 y3 v109 _ (by omega) (by omega) (by omega) ul uo uw uF

theorem c_X11_findFurrow {l : Launch} {G : Gx} {d : Nat} {σ : Sg} {Q : Option Value → Sg → Prop} {n : Nat} {pt : Nat → Pt} {x1 : Int32} (hQ : rmQ σ n pt) (hm : 0 < (prs n pt).length) (h : ∀ (r : Int32) (τ : Sg), FrQ σ τ → (((x1.toInt < 0 ∨ nFur n pt ≤ x1.toInt) ∧ r.toInt = nFur n pt) ∨ ∃ k : Nat, x1.toInt = (k : Int) ∧ (k : Int) < nFur n pt ∧ r.toInt = (k : Int) + 1 ∧ isLnM τ (kFur n pt k)) → Q (some (.int r)) τ)  : Z l G M_X11_findFurrow (d + 8) 0 [some (.ref 1), some (.int x1)] [] σ Q := by
  refine z_sub (L' := [some (.ref 1), some (.int x1), none, none, none, none]) ⟨rfl, rfl, trivial⟩ ?_
  refine z_iconst (pc := 0) (v := 0) dX11_findFurrow_0 (by decide) ?_
  refine z_istore_n (pc := 1) dX11_findFurrow_1 rfl rfl (by dsimp only [setI, setL, List.set]) ?_
  refine z_iconst (pc := 2) (v := 1) dX11_findFurrow_2 (by decide) ?_
  refine z_istore_n (pc := 3) dX11_findFurrow_3 rfl rfl (by dsimp only [setI, setL, List.set]) ?_
  refine z_iconst (pc := 4) (v := 0) dX11_findFurrow_4 (by decide) ?_
  refine z_istore (pc := 5) dX11_findFurrow_5 rfl rfl (by dsimp only [setI, setL, List.set]) ?_
  exact c_mff_out hQ hm h (n + 1) 0 σ 0 1 0 _ (by decide) (by omega) (by omega) rfl (Or.inl ⟨rfl, rfl⟩) (by show _ ∨ (0 : Int) ≤ _; omega) FrQ_rf

theorem kFur_ab {n k : Nat} {pt : Nat → Pt} (hP : ∀ i, i < n → ptOk (pt i)) (hm : 0 < (prs n pt).length) (hk : (k : Int) < nFur n pt) : (kFur n pt k).1.natAbs ≤ 1000000 ∧ (kFur n pt k).2.1.natAbs ≤ 1000000 ∧ (kFur n pt k).2.2.natAbs ≤ 1000000 := by
  unfold kFur
  by_cases he : LPR (prs n pt) pt = []
  · rw [if_pos he]
    obtain ⟨p, hp⟩ := prs_get (pt := pt) (n := n) (j := 0) hm
    rw [getD_some hp]
    have := hP p (prs_at hp).1
    unfold ptOk at this
    refine ⟨by show (0 : Int).natAbs ≤ _; decide, by show (1 : Int).natAbs ≤ _; decide, ?_⟩
    show (-(pt p).2.1.toInt).natAbs ≤ 1000000
    omega
  · rw [if_neg he]
    have hnf : nFur n pt = ((FUR n pt).length : Int) := if_neg he
    have hlt : k < (FUR n pt).length := by omega
    rw [List.getD_eq_getElem?_getD, List.getElem?_eq_getElem hlt]
    exact lnO_abs hP (List.mem_filter.mp (List.getElem_mem hlt)).1

theorem c_X11_furrow {l : Launch} {G : Gx} {d : Nat} {σ : Sg} {Q : Option Value → Sg → Prop} {a : Ab} {x1 : Int32} (hr : rM σ a) (hk : abOk a) (h : ∀ (r : Int32) (τ : Sg), r.toInt = (sFurrow a x1).1 → rM τ (sFurrow a x1).2 → eqC σ τ → Q (some (.int r)) τ) : Z l G M_X11_furrow (d + 9) 0 [some (.ref 1), some (.int x1)] [] σ Q := by
  refine z_sub (L' := [some (.ref 1), some (.int x1)]) ⟨rfl, rfl, trivial⟩ ?_
  refine z_iload_n (pc := 0) dX11_furrow_0 rfl ?_
  refine zq_if_ge (pc := 1) (tgt := 7) dX11_furrow_1 rfl rfl (fun h1 => ?_) (fun h1 => ?_)
  · skip
    refine z_aload_n (pc := 7) dX11_furrow_7 rfl ?_
    refine z_iv0 (pc := 8) dX11_furrow_8 kv_X11_134 rfl (by decide) (by decide) rfl rfl ?_
    refine c_X11_there hk.1 hr.1.1 (fun i hi => (hr.1.2 i hi).2.2.2.2) (fun r0 er0 => ?_)
    refine zq_if_ne (pc := 11) (tgt := 17) dX11_furrow_11 rfl rfl (fun h11 => ?_) (fun h11 => ?_)
    · skip
      refine z_aload_n (pc := 17) dX11_furrow_17 rfl ?_
      refine z_iload_n (pc := 18) dX11_furrow_18 rfl ?_
      refine z_iv1 (pc := 19) dX11_furrow_19 kv_X11_229 rfl (by decide) (by decide) rfl rfl ?_
      refine c_X11_findFurrow (rmQ_of hr hk) (by omega) (fun rf τ hF hor => ?_)
      have hrt := rM_FrQ hr hF
      refine z_iload_n (pc := 22) dX11_furrow_22 rfl ?_
      refine zq_icmp_gt (pc := 23) (tgt := 28) dX11_furrow_23 rfl rfl rfl (fun h23 => ?_) (fun h23 => ?_)
      · skip
        refine z_aload_n (pc := 28) dX11_furrow_28 rfl ?_
        refine z_iv0 (pc := 29) dX11_furrow_29 kv_X11_207 rfl (by decide) (by decide) rfl rfl ?_
        rcases hor with ⟨ho1, ho2⟩ | ⟨k, k1, k2, k3, k4⟩
        · exfalso; omega
        have e : sFurrow a x1 = _ := sFurrow_4 k1 (by omega) (by omega)
        refine c_X11_putLine (fun υ u1 u2 u20 u21 u22 => ?_)
        refine z_iconst (pc := 32) (v := 1) dX11_furrow_32 (by decide) ?_
        refine z_iret (pc := 33) dX11_furrow_33 rfl ?_
        exact h _ _ (by rw [e]; rfl) (by
          rw [e]
          refine rM_ln hrt (kFur_ab hk.2.1 (by omega) k2) (fun k h16 h29 => by rw [u1]) (by rw [u1]; exact hrt.2.2.1) (fun o h1 h3 => ⟨by rw [u1], u2 o h1⟩) ?_ ?_ ?_
          · rw [u20]; exact k4.1
          · rw [u21]; exact k4.2.1
          · rw [u22]; exact k4.2.2) (eqC_tr (FrQ_C hF) (fun o ho => ⟨by rw [u1], u2 o (fun e => by rw [e] at ho; cases ho)⟩))
      · skip
        refine z_iconst (pc := 26) (v := 0) dX11_furrow_26 (by decide) ?_
        refine z_iret (pc := 27) dX11_furrow_27 rfl ?_
        rcases hor with ⟨ho1, ho2⟩ | ⟨k, k1, k2, k3, k4⟩
        rotate_left
        · exfalso; omega
        have e : sFurrow a x1 = _ := (if_neg (by omega)).trans ((if_neg (by omega)).trans (if_pos (by omega)))
        exact h _ _ (by rw [e]; rfl) (by rw [e]; exact hrt) (FrQ_C hF)
    · skip
      refine z_ldc (pc := 14) dX11_furrow_14 kc_X11_176 ?_
      refine z_iret (pc := 16) dX11_furrow_16 rfl ?_
      have e : sFurrow a x1 = _ := (if_neg (by omega)).trans (if_pos (by omega))
      exact h _ _ (by rw [e]; rfl) (by rw [e]; exact hr) eqC_rf
  · skip
    refine z_ldc (pc := 4) dX11_furrow_4 kc_X11_91 ?_
    refine z_iret (pc := 6) dX11_furrow_6 rfl ?_
    have e : sFurrow a x1 = _ := if_pos (by omega)
    exact h _ _ (by rw [e]; rfl) (by rw [e]; exact hr) eqC_rf

theorem c_X11_furrows {l : Launch} {G : Gx} {d : Nat} {σ : Sg} {Q : Option Value → Sg → Prop} {a : Ab} (hr : rM σ a) (hk : abOk a) (h : ∀ (r : Int32) (τ : Sg), r.toInt = sFurrows a → rM τ a → eqC σ τ → Q (some (.int r)) τ) : Z l G M_X11_furrows (d + 9) 0 [some (.ref 1)] [] σ Q := by
  refine z_sub (L' := [some (.ref 1)]) ⟨rfl, trivial⟩ ?_
  refine z_aload_n (pc := 0) dX11_furrows_0 rfl ?_
  refine z_iv0 (pc := 1) dX11_furrows_1 kv_X11_134 rfl (by decide) (by decide) rfl rfl ?_
  refine c_X11_there hk.1 hr.1.1 (fun i hi => (hr.1.2 i hi).2.2.2.2) (fun r0 er0 => ?_)
  refine zq_if_ne (pc := 4) (tgt := 12) dX11_furrows_4 rfl rfl (fun h4 => ?_) (fun h4 => ?_)
  · skip
    refine z_aload_n (pc := 12) dX11_furrows_12 rfl ?_
    refine z_iconst (pc := 13) (v := -1) dX11_furrows_13 (by decide) ?_
    refine z_iv1 (pc := 14) dX11_furrows_14 kv_X11_229 rfl (by decide) (by decide) rfl rfl ?_
    refine c_X11_findFurrow (rmQ_of hr hk) (by omega) (fun rf τ hF hor => ?_)
    have hrt := rM_FrQ hr hF
    refine z_iret (pc := 17) dX11_furrows_17 rfl ?_
    first
    | exact h _ _ (if_pos (by omega) : sFurrows a = _).symm hr eqC_rf
    | (rcases hor with ⟨ho1, ho2⟩ | ⟨k, k1, k2, k3, k4⟩
       · exact h _ _ (ho2.trans (if_neg (by omega) : sFurrows a = _).symm) hrt (FrQ_C hF)
       · exfalso
         have : (-1 : Int32).toInt = -1 := rfl
         omega)
  · skip
    refine z_ldc (pc := 7) dX11_furrows_7 kc_X11_176 ?_
    refine z_goto (pc := 9) (tgt := 17) dX11_furrows_9 rfl ?_
    refine z_iret (pc := 17) dX11_furrows_17 rfl ?_
    first
    | exact h _ _ (if_pos (by omega) : sFurrows a = _).symm hr eqC_rf
    | (rcases hor with ⟨ho1, ho2⟩ | ⟨k, k1, k2, k3, k4⟩
       · exact h _ _ (ho2.trans (if_neg (by omega) : sFurrows a = _).symm) hrt (FrQ_C hF)
       · exfalso
         have : (-1 : Int32).toInt = -1 := rfl
         omega)
