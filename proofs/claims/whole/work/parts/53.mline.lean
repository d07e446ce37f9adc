/-! the model's lines -/
theorem t64_divG {x y : Int64} (h0 : y.toInt ≠ 0) (h1 : -4611686018427387904 ≤ x.toInt) (h2 : x.toInt ≤ 4611686018427387904) : (x / y).toInt = x.toInt.tdiv y.toInt := by
  rcases Int.lt_or_gt_of_ne h0 with hn | hp
  · rw [Int64.toInt_div]
    have e : x.toInt.tdiv y.toInt = -(x.toInt.tdiv (-y.toInt)) := by rw [Int.tdiv_neg]; omega
    have h3 := t_tdiv (a := x.toInt) (b := -y.toInt) (by omega)
    rw [e]
    rcases Int.le_total 0 x.toInt with h | h
    · have := h3.1 h
      exact Int.bmod_eq_of_le_mul_two (by omega) (by omega)
    · have := h3.2 h
      exact Int.bmod_eq_of_le_mul_two (by omega) (by omega)
  · exact t64_div hp
theorem z_ldivG {l : Launch} {G : Gx} {M : Mt} {d pc : Nat} {L : Lc} {st : List Value} {σ : Sg} {Q : Option Value → Sg → Prop} {x y : Int64} {cx cy : Int} (hd : decode M.2.1 pc = .ok (.ldiv, 1)) (hx : x.toInt = cx) (hy : y.toInt = cy) (h0 : cy ≠ 0) (h1 : -4611686018427387904 ≤ cx) (h2 : cx ≤ 4611686018427387904) (k : ∀ v : Int64, v.toInt = cx.tdiv cy → Z l G M d (pc + 1) L (.long v :: st) σ Q) : Z l G M d pc L (.long y :: .long x :: st) σ Q := by
  subst hx; subst hy
  exact z_ldiv hd (fun e => h0 (by rw [e]; rfl)) (k _ (t64_divG h0 h1 h2))
/-- the model's scratch alone has changed -/
def FrQ (σ τ : Sg) : Prop := (∀ o, o ≠ 1 → (o < 41 ∨ 48 < o) → τ.1 o = σ.1 o ∧ τ.2 o = σ.2 o) ∧ (∀ k, k ≠ 29 → τ.1 1 k = σ.1 1 k) ∧ ∀ k, k ≤ 22 → τ.2 1 k = σ.2 1 k
theorem FrQ_rf {σ : Sg} : FrQ σ σ := ⟨fun _ _ _ => ⟨rfl, rfl⟩, fun _ _ => rfl, fun _ _ => rfl⟩
theorem FrQ_tr {σ τ υ : Sg} (h : FrQ σ τ) (g : FrQ τ υ) : FrQ σ υ := ⟨fun o h1 h2 => ⟨(g.1 o h1 h2).1.trans (h.1 o h1 h2).1, (g.1 o h1 h2).2.trans (h.1 o h1 h2).2⟩, fun k hk => (g.2.1 k hk).trans (h.2.1 k hk), fun k hk => (g.2.2 k hk).trans (h.2.2 k hk)⟩
theorem FrQ_uJ1 {σ τ : Sg} {k : Nat} {v : Int64} (h : FrQ σ τ) (hk : 22 < k) : FrQ σ (uJ τ 1 k v) := ⟨fun o h1 h2 => ⟨(h.1 o h1 h2).1, (uJ_row h1).trans (h.1 o h1 h2).2⟩, h.2.1, fun j hj => (uJ_nk (by omega)).trans (h.2.2 j hj)⟩
theorem FrQ_uI1 {σ τ : Sg} {v : Int32} (h : FrQ σ τ) : FrQ σ (uI τ 1 29 v) := ⟨fun o h1 h2 => ⟨(uI_row h1).trans (h.1 o h1 h2).1, (h.1 o h1 h2).2⟩, fun k hk => (uI_nk hk).trans (h.2.1 k hk), h.2.2⟩
theorem FrQ_uI {σ τ : Sg} {o k : Nat} {v : Int32} (h : FrQ σ τ) (h1 : 41 ≤ o) (h2 : o ≤ 48) : FrQ σ (uI τ o k v) := ⟨fun a g1 g2 => ⟨(uI_row (by omega)).trans (h.1 a g1 g2).1, (h.1 a g1 g2).2⟩, fun j hj => (by rw [uI_row (by omega)]; exact h.2.1 j hj), h.2.2⟩
theorem FrQ_uJ {σ τ : Sg} {o k : Nat} {v : Int64} (h : FrQ σ τ) (h1 : 41 ≤ o) (h2 : o ≤ 48) : FrQ σ (uJ τ o k v) := ⟨fun a g1 g2 => ⟨(h.1 a g1 g2).1, (uJ_row (by omega)).trans (h.1 a g1 g2).2⟩, h.2.1, fun j hj => (by rw [uJ_row (by omega)]; exact h.2.2 j hj)⟩
theorem FrQ_C {σ τ : Sg} (h : FrQ σ τ) : eqC σ τ := fun o ho => h.1 o (fun e => by rw [e] at ho; cases ho) (by
  rcases Nat.lt_or_ge o 41 with h1 | h1
  · exact Or.inl h1
  · rcases Nat.lt_or_ge 48 o with h2 | h2
    · exact Or.inr h2
    · exfalso
      unfold isM at ho
      have a1 : Nat.ble 31 o = true := Nat.ble_eq_true_of_le (by omega)
      have a2 : Nat.ble o 48 = true := Nat.ble_eq_true_of_le h2
      rw [a1, a2] at ho
      simp at ho)
theorem rM_FrQ {σ τ : Sg} {a : Ab} (h : rM σ a) (hF : FrQ σ τ) : rM τ a := by
  obtain ⟨r1, r2, r3, r4, r5, r6, r7⟩ := h
  obtain ⟨f1, f2, f3⟩ := hF
  refine ⟨⟨by rw [f2 0 (by omega)]; exact r1.1, fun i hi => ?_⟩, rmB_cong (f1 36 (by omega) (by omega)).1 (f1 37 (by omega) (by omega)).1 (f1 38 (by omega) (by omega)).2 r2, by rw [f2 16 (by omega)]; exact r3, ⟨by rw [f2 18 (by omega)]; exact r4.1, fun j hj => by rw [(f1 40 (by omega) (by omega)).1]; exact r4.2.1 j hj, by rw [f2 19 (by omega)]; exact r4.2.2⟩, ⟨by rw [f3 20 (by omega)]; exact r5.1, by rw [f3 21 (by omega)]; exact r5.2.1, by rw [f3 22 (by omega)]; exact r5.2.2⟩, ?_, fun i hi => by rw [(f1 35 (by omega) (by omega)).1]; exact r7 i hi⟩
  · rw [(f1 31 (by omega) (by omega)).1, (f1 32 (by omega) (by omega)).1, (f1 33 (by omega) (by omega)).1, (f1 34 (by omega) (by omega)).1, (f1 35 (by omega) (by omega)).1]; exact r1.2 i hi
  · cases hu : a.2.2.2.2.2 with
    | none => rw [hu] at r6; show (τ.1 1 6).toInt < 0; rw [f2 6 (by omega)]; exact r6
    | some q =>
      rw [hu] at r6
      obtain ⟨u, nw, p⟩ := q
      show (τ.1 1 6).toInt = _ ∧ τ.1 1 7 = _ ∧ (_ → τ.1 1 8 = _ ∧ τ.1 1 9 = _ ∧ τ.1 1 10 = _ ∧ τ.1 1 11 = _)
      rw [f2 6 (by omega), f2 7 (by omega), f2 8 (by omega), f2 9 (by omega), f2 10 (by omega), f2 11 (by omega)]; exact r6
def isLnM (σ : Sg) (t : Int × Int × Int) : Prop := (σ.2 1 23).toInt = t.1 ∧ (σ.2 1 24).toInt = t.2.1 ∧ (σ.2 1 25).toInt = t.2.2
def ptM (σ : Sg) (p : Nat) : Prop := -300 ≤ (σ.1 31 p).toInt ∧ (σ.1 31 p).toInt ≤ 300 ∧ -300 ≤ (σ.1 32 p).toInt ∧ (σ.1 32 p).toInt ≤ 300
theorem rM_ln {σ τ : Sg} {a : Ab} {f : Int32} {t : Int × Int × Int} (h : rM σ a) (hb : t.1.natAbs ≤ 1000000 ∧ t.2.1.natAbs ≤ 1000000 ∧ t.2.2.natAbs ≤ 1000000) (h1 : ∀ k, k ≠ 16 → k ≠ 29 → τ.1 1 k = σ.1 1 k) (hf : τ.1 1 16 = f) (hrow : ∀ o, o ≠ 1 → (o < 41 ∨ 48 < o) → τ.1 o = σ.1 o ∧ τ.2 o = σ.2 o) (e0 : (τ.2 1 20).toInt = t.1) (e1 : (τ.2 1 21).toInt = t.2.1) (e2 : (τ.2 1 22).toInt = t.2.2) : rM τ (lnTo a f t) := by
  obtain ⟨r1, r2, r3, r4, r5, r6, r7⟩ := h
  refine ⟨⟨by rw [h1 0 (by omega) (by omega)]; exact r1.1, fun i hi => ?_⟩, rmB_cong (hrow 36 (by omega) (by omega)).1 (hrow 37 (by omega) (by omega)).1 (hrow 38 (by omega) (by omega)).2 r2, hf, ⟨by rw [h1 18 (by omega) (by omega)]; exact r4.1, fun j hj => by rw [(hrow 40 (by omega) (by omega)).1]; exact r4.2.1 j hj, by rw [h1 19 (by omega) (by omega)]; exact r4.2.2⟩, ⟨?_, ?_, ?_⟩, ?_, fun i hi => by rw [(hrow 35 (by omega) (by omega)).1]; exact r7 i hi⟩
  · rw [(hrow 31 (by omega) (by omega)).1, (hrow 32 (by omega) (by omega)).1, (hrow 33 (by omega) (by omega)).1, (hrow 34 (by omega) (by omega)).1, (hrow 35 (by omega) (by omega)).1]; exact r1.2 i hi
  · show _ = (Int32.ofInt t.1).toInt
    rw [Int32.toInt_ofInt_of_le (by omega) (by omega)]; exact e0
  · show _ = (Int32.ofInt t.2.1).toInt
    rw [Int32.toInt_ofInt_of_le (by omega) (by omega)]; exact e1
  · show _ = (Int32.ofInt t.2.2).toInt
    rw [Int32.toInt_ofInt_of_le (by omega) (by omega)]; exact e2
  · show rmU τ a.2.2.2.2.2
    cases hu : a.2.2.2.2.2 with
    | none => rw [hu] at r6; show (τ.1 1 6).toInt < 0; rw [h1 6 (by omega) (by omega)]; exact r6
    | some q =>
      rw [hu] at r6
      obtain ⟨u, nw, p⟩ := q
      show (τ.1 1 6).toInt = _ ∧ τ.1 1 7 = _ ∧ (_ → τ.1 1 8 = _ ∧ τ.1 1 9 = _ ∧ τ.1 1 10 = _ ∧ τ.1 1 11 = _)
      rw [h1 6 (by omega) (by omega), h1 7 (by omega) (by omega), h1 8 (by omega) (by omega), h1 9 (by omega) (by omega), h1 10 (by omega) (by omega), h1 11 (by omega) (by omega)]; exact r6

theorem c_X11_isApart {l : Launch} {G : Gx} {d : Nat} {σ : Sg} {Q : Option Value → Sg → Prop} {p q : Nat} {x1 x2 : Int32} (hp : p < 40) (hx1 : x1.toInt = (p : Int)) (hq : q < 40) (hx2 : x2.toInt = (q : Int)) (ht : (σ.1 31 p).toInt ≠ (σ.1 31 q).toInt ∨ (σ.1 32 p).toInt ≠ (σ.1 32 q).toInt → Q (some (.int 1)) σ) (hf : (σ.1 31 p).toInt = (σ.1 31 q).toInt ∧ (σ.1 32 p).toInt = (σ.1 32 q).toInt → Q (some (.int 0)) σ) : Z l G M_X11_isApart (d) 0 [some (.ref 1), some (.int x1), some (.int x2)] [] σ Q := by
  refine z_sub (L' := [some (.ref 1), some (.int x1), some (.int x2)]) ⟨rfl, rfl, rfl, trivial⟩ ?_
  refine z_aload_n (pc := 0) dX11_isApart_0 rfl ?_
  refine z_getR (pc := 1) (t := 31) dX11_isApart_1 fk_X11_7 rfl (by decide) (by decide) (by decide) rfl ?_
  refine z_iload_n (pc := 4) dX11_isApart_4 rfl ?_
  refine z_ialdN (pc := 5) p dX11_isApart_5 rfl (by decide) hx1 (by show _ < 40; omega) ?_
  refine z_aload_n (pc := 6) dX11_isApart_6 rfl ?_
  refine z_getR (pc := 7) (t := 31) dX11_isApart_7 fk_X11_7 rfl (by decide) (by decide) (by decide) rfl ?_
  refine z_iload_n (pc := 10) dX11_isApart_10 rfl ?_
  refine z_ialdN (pc := 11) q dX11_isApart_11 rfl (by decide) hx2 (by show _ < 40; omega) ?_
  refine zq_icmp_ne (pc := 12) (tgt := 30) dX11_isApart_12 rfl rfl rfl (fun h12 => ?_) (fun h12 => ?_)
  · skip
    refine z_iconst (pc := 30) (v := 1) dX11_isApart_30 (by decide) ?_
    refine z_goto (pc := 31) (tgt := 35) dX11_isApart_31 rfl ?_
    refine z_zret (pc := 35) dX11_isApart_35 rfl (by decide) ?_
    exact ht (by omega)
  · skip
    refine z_aload_n (pc := 15) dX11_isApart_15 rfl ?_
    refine z_getR (pc := 16) (t := 32) dX11_isApart_16 fk_X11_13 rfl (by decide) (by decide) (by decide) rfl ?_
    refine z_iload_n (pc := 19) dX11_isApart_19 rfl ?_
    refine z_ialdN (pc := 20) p dX11_isApart_20 rfl (by decide) hx1 (by show _ < 40; omega) ?_
    refine z_aload_n (pc := 21) dX11_isApart_21 rfl ?_
    refine z_getR (pc := 22) (t := 32) dX11_isApart_22 fk_X11_13 rfl (by decide) (by decide) (by decide) rfl ?_
    refine z_iload_n (pc := 25) dX11_isApart_25 rfl ?_
    refine z_ialdN (pc := 26) q dX11_isApart_26 rfl (by decide) hx2 (by show _ < 40; omega) ?_
    refine zq_icmp_eq (pc := 27) (tgt := 34) dX11_isApart_27 rfl rfl rfl (fun h27 => ?_) (fun h27 => ?_)
    · skip
      refine z_iconst (pc := 34) (v := 0) dX11_isApart_34 (by decide) ?_
      refine z_zret (pc := 35) dX11_isApart_35 rfl (by decide) ?_
      exact hf (by omega)
    · skip
      refine z_iconst (pc := 30) (v := 1) dX11_isApart_30 (by decide) ?_
      refine z_goto (pc := 31) (tgt := 35) dX11_isApart_31 rfl ?_
      refine z_zret (pc := 35) dX11_isApart_35 rfl (by decide) ?_
      exact ht (by omega)

theorem c_X11_look {l : Launch} {G : Gx} {d : Nat} {σ : Sg} {Q : Option Value → Sg → Prop} {p q : Nat} {x1 x2 : Int32} (hp : p < 40) (hx1 : x1.toInt = (p : Int)) (hq : q < 40) (hx2 : x2.toInt = (q : Int)) (bp : ptM σ p) (bq : ptM σ q) (ha : (σ.1 31 p).toInt ≠ (σ.1 31 q).toInt ∨ (σ.1 32 p).toInt ≠ (σ.1 32 q).toInt) (h : ∀ τ, isLnM τ (lnT (σ.1 31 p).toInt (σ.1 32 p).toInt (σ.1 31 q).toInt (σ.1 32 q).toInt) → FrQ σ τ → τ.1 = σ.1 → (∀ o, o ≠ 1 → τ.2 o = σ.2 o) → (∀ k, k ≠ 23 → k ≠ 24 → k ≠ 25 → τ.2 1 k = σ.2 1 k) → Q none τ) : Z l G M_X11_look (d + 1) 0 [some (.ref 1), some (.int x1), some (.int x2)] [] σ Q := by
  unfold ptM at bp bq
  have m1 := mulb (a := (σ.1 31 p).toInt) (b := (σ.1 32 q).toInt) (p := 300) (q := 300) (by omega) (by omega) (by omega) (by omega)
  have m2 := mulb (a := (σ.1 31 q).toInt) (b := (σ.1 32 p).toInt) (p := 300) (q := 300) (by omega) (by omega) (by omega) (by omega)
  refine z_sub (L' := [some (.ref 1), some (.int x1), some (.int x2), none, none]) ⟨rfl, rfl, rfl, trivial⟩ ?_
  refine z_aload_n (pc := 0) dX11_look_0 rfl ?_
  refine z_aload_n (pc := 1) dX11_look_1 rfl ?_
  refine z_getR (pc := 2) (t := 32) dX11_look_2 fk_X11_13 rfl (by decide) (by decide) (by decide) rfl ?_
  refine z_iload_n (pc := 5) dX11_look_5 rfl ?_
  refine z_ialdN (pc := 6) p dX11_look_6 rfl (by decide) hx1 (by show _ < 40; omega) ?_
  refine z_aload_n (pc := 7) dX11_look_7 rfl ?_
  refine z_getR (pc := 8) (t := 32) dX11_look_8 fk_X11_13 rfl (by decide) (by decide) (by decide) rfl ?_
  refine z_iload_n (pc := 11) dX11_look_11 rfl ?_
  refine z_ialdN (pc := 12) q dX11_look_12 rfl (by decide) hx2 (by show _ < 40; omega) ?_
  refine z_isubT (pc := 13) dX11_look_13 rfl rfl (by omega) (by omega) (fun v13 e13 => ?_)
  refine z_i2lT (pc := 14) dX11_look_14 rfl (fun v14 e14 => ?_)
  refine z_putJ (pc := 15) dX11_look_15 fk_X11_191 rfl (by decide) (by decide) (by decide) ?_
  refine z_aload_n (pc := 18) dX11_look_18 rfl ?_
  refine z_aload_n (pc := 19) dX11_look_19 rfl ?_
  refine z_getR (pc := 20) (t := 31) dX11_look_20 fk_X11_7 rfl (by decide) (by decide) (by decide) rfl ?_
  refine z_iload_n (pc := 23) dX11_look_23 rfl ?_
  refine z_ialdN (pc := 24) q dX11_look_24 rfl (by decide) hx2 (by show _ < 40; omega) ?_
  refine z_aload_n (pc := 25) dX11_look_25 rfl ?_
  refine z_getR (pc := 26) (t := 31) dX11_look_26 fk_X11_7 rfl (by decide) (by decide) (by decide) rfl ?_
  refine z_iload_n (pc := 29) dX11_look_29 rfl ?_
  refine z_ialdN (pc := 30) p dX11_look_30 rfl (by decide) hx1 (by show _ < 40; omega) ?_
  try simp (disch := omega) only [uJ_row, uJ_1, uJ_nk, uJ_no, uJ_eq]
  refine z_isubT (pc := 31) dX11_look_31 rfl rfl (by omega) (by omega) (fun v31 e31 => ?_)
  refine z_i2lT (pc := 32) dX11_look_32 rfl (fun v32 e32 => ?_)
  refine z_putJ (pc := 33) dX11_look_33 fk_X11_194 rfl (by decide) (by decide) (by decide) ?_
  refine z_aload_n (pc := 36) dX11_look_36 rfl ?_
  refine z_aload_n (pc := 37) dX11_look_37 rfl ?_
  refine z_getR (pc := 38) (t := 31) dX11_look_38 fk_X11_7 rfl (by decide) (by decide) (by decide) rfl ?_
  refine z_iload_n (pc := 41) dX11_look_41 rfl ?_
  refine z_ialdN (pc := 42) p dX11_look_42 rfl (by decide) hx1 (by show _ < 40; omega) ?_
  try simp (disch := omega) only [uJ_row, uJ_1, uJ_nk, uJ_no, uJ_eq]
  refine z_i2lT (pc := 43) dX11_look_43 rfl (fun v43 e43 => ?_)
  refine z_aload_n (pc := 44) dX11_look_44 rfl ?_
  refine z_getR (pc := 45) (t := 32) dX11_look_45 fk_X11_13 rfl (by decide) (by decide) (by decide) rfl ?_
  refine z_iload_n (pc := 48) dX11_look_48 rfl ?_
  refine z_ialdN (pc := 49) q dX11_look_49 rfl (by decide) hx2 (by show _ < 40; omega) ?_
  try simp (disch := omega) only [uJ_row, uJ_1, uJ_nk, uJ_no, uJ_eq]
  refine z_i2lT (pc := 50) dX11_look_50 rfl (fun v50 e50 => ?_)
  refine z_lmulT (pc := 51) dX11_look_51 rfl rfl (by rw [e43, e50]; omega) (by rw [e43, e50]; omega) (fun v51 e51 => ?_)
  refine z_aload_n (pc := 52) dX11_look_52 rfl ?_
  refine z_getR (pc := 53) (t := 31) dX11_look_53 fk_X11_7 rfl (by decide) (by decide) (by decide) rfl ?_
  refine z_iload_n (pc := 56) dX11_look_56 rfl ?_
  refine z_ialdN (pc := 57) q dX11_look_57 rfl (by decide) hx2 (by show _ < 40; omega) ?_
  try simp (disch := omega) only [uJ_row, uJ_1, uJ_nk, uJ_no, uJ_eq]
  refine z_i2lT (pc := 58) dX11_look_58 rfl (fun v58 e58 => ?_)
  refine z_aload_n (pc := 59) dX11_look_59 rfl ?_
  refine z_getR (pc := 60) (t := 32) dX11_look_60 fk_X11_13 rfl (by decide) (by decide) (by decide) rfl ?_
  refine z_iload_n (pc := 63) dX11_look_63 rfl ?_
  refine z_ialdN (pc := 64) p dX11_look_64 rfl (by decide) hx1 (by show _ < 40; omega) ?_
  try simp (disch := omega) only [uJ_row, uJ_1, uJ_nk, uJ_no, uJ_eq]
  refine z_i2lT (pc := 65) dX11_look_65 rfl (fun v65 e65 => ?_)
  refine z_lmulT (pc := 66) dX11_look_66 rfl rfl (by rw [e58, e65]; omega) (by rw [e58, e65]; omega) (fun v66 e66 => ?_)
  refine z_lsubT (pc := 67) dX11_look_67 rfl rfl (by rw [e51, e66, e43, e50, e58, e65]; omega) (by rw [e51, e66, e43, e50, e58, e65]; omega) (fun v67 e67 => ?_)
  refine z_putJ (pc := 68) dX11_look_68 fk_X11_197 rfl (by decide) (by decide) (by decide) ?_
  have eA : v14.toInt = (σ.1 32 p).toInt - (σ.1 32 q).toInt := by rw [e14, e13]
  have eB : v32.toInt = (σ.1 31 q).toInt - (σ.1 31 p).toInt := by rw [e32, e31]
  have eC : v67.toInt = (σ.1 31 p).toInt * (σ.1 32 q).toInt - (σ.1 31 q).toInt * (σ.1 32 p).toInt := by rw [e67, e51, e66, e43, e50, e58, e65]
  have h0 : v14.toInt ≠ 0 ∨ v32.toInt ≠ 0 := by omega
  have c1 : v14.toInt.natAbs ≤ 180000 := by omega
  have c2 : v32.toInt.natAbs ≤ 180000 := by omega
  have c3 : v67.toInt.natAbs ≤ 180000 := by omega
  have hg1 := gg_le h0 c1 c2
  have hg3 := g3_le h0 c1 c2 c3
  have hp3 := g3_pos v67.toInt h0
  refine z_aload_n (pc := 71) dX11_look_71 rfl ?_
  refine z_getJ (pc := 72) dX11_look_72 fk_X11_191 rfl (by decide) (by decide) (by decide) ?_
  try simp (disch := omega) only [uJ_row, uJ_1, uJ_nk, uJ_no, uJ_eq]
  refine z_aload_n (pc := 75) dX11_look_75 rfl ?_
  refine z_getJ (pc := 76) dX11_look_76 fk_X11_194 rfl (by decide) (by decide) (by decide) ?_
  try simp (disch := omega) only [uJ_row, uJ_1, uJ_nk, uJ_no, uJ_eq]
  refine z_is2 (pc := 79) dX11_look_79 ks_X11_181 rfl rfl ?_
  refine c_dv (by omega) (by omega) (fun g1 eg1 => ?_)
  refine z_aload_n (pc := 82) dX11_look_82 rfl ?_
  refine z_getJ (pc := 83) dX11_look_83 fk_X11_197 rfl (by decide) (by decide) (by decide) ?_
  try simp (disch := omega) only [uJ_row, uJ_1, uJ_nk, uJ_no, uJ_eq]
  refine z_is2 (pc := 86) dX11_look_86 ks_X11_181 rfl rfl ?_
  refine c_dv (by omega) (by omega) (fun g2 eg2 => ?_)
  rw [eg1] at eg2
  change g2.toInt = (g3 v14.toInt v32.toInt v67.toInt : Int) at eg2
  refine z_lstore_n (pc := 89) dX11_look_89 rfl rfl (by dsimp only [setI, setL, List.set]) ?_
  refine z_aload_n (pc := 90) dX11_look_90 rfl ?_
  refine z_getJ (pc := 91) dX11_look_91 fk_X11_191 rfl (by decide) (by decide) (by decide) ?_
  try simp (disch := omega) only [uJ_row, uJ_1, uJ_nk, uJ_no, uJ_eq]
  refine z_lconst (pc := 94) (v := 0) dX11_look_94 (by decide) ?_
  refine zq_lc_lt (pc := 95) (cy := 0) (tgt := 117) dX11_look_95 dX11_look_96 rfl rfl (by decide) (fun h95 => ?_) (fun h95 => ?_)
  · skip
    refine z_lload_n (pc := 117) dX11_look_117 rfl ?_
    refine z_lnegT (pc := 118) dX11_look_118 rfl (by omega) (by omega) (fun v118 e118 => ?_)
    refine z_lstore_n (pc := 119) dX11_look_119 rfl rfl (by dsimp only [setI, setL, List.set]) ?_
    refine z_aload_n (pc := 120) dX11_look_120 rfl ?_
    refine z_dup (pc := 121) dX11_look_121 rfl ?_
    refine z_getJ (pc := 122) dX11_look_122 fk_X11_191 rfl (by decide) (by decide) (by decide) ?_
    try simp (disch := omega) only [uJ_row, uJ_1, uJ_nk, uJ_no, uJ_eq]
    refine z_lload_n (pc := 125) dX11_look_125 rfl ?_
    refine z_ldivG (pc := 126) dX11_look_126 rfl rfl (by omega) (by omega) (by omega) (fun v126 e126 => ?_)
    refine z_putJ (pc := 127) dX11_look_127 fk_X11_191 rfl (by decide) (by decide) (by decide) ?_
    refine z_aload_n (pc := 130) dX11_look_130 rfl ?_
    refine z_dup (pc := 131) dX11_look_131 rfl ?_
    refine z_getJ (pc := 132) dX11_look_132 fk_X11_194 rfl (by decide) (by decide) (by decide) ?_
    try simp (disch := omega) only [uJ_row, uJ_1, uJ_nk, uJ_no, uJ_eq]
    refine z_lload_n (pc := 135) dX11_look_135 rfl ?_
    refine z_ldivG (pc := 136) dX11_look_136 rfl rfl (by omega) (by omega) (by omega) (fun v136 e136 => ?_)
    refine z_putJ (pc := 137) dX11_look_137 fk_X11_194 rfl (by decide) (by decide) (by decide) ?_
    refine z_aload_n (pc := 140) dX11_look_140 rfl ?_
    refine z_dup (pc := 141) dX11_look_141 rfl ?_
    refine z_getJ (pc := 142) dX11_look_142 fk_X11_197 rfl (by decide) (by decide) (by decide) ?_
    try simp (disch := omega) only [uJ_row, uJ_1, uJ_nk, uJ_no, uJ_eq]
    refine z_lload_n (pc := 145) dX11_look_145 rfl ?_
    refine z_ldivG (pc := 146) dX11_look_146 rfl rfl (by omega) (by omega) (by omega) (fun v146 e146 => ?_)
    refine z_putJ (pc := 147) dX11_look_147 fk_X11_197 rfl (by decide) (by decide) (by decide) ?_
    refine z_vret (pc := 150) dX11_look_150 rfl ?_
    refine h _ ?_ (FrQ_uJ1 (FrQ_uJ1 (FrQ_uJ1 (FrQ_uJ1 (FrQ_uJ1 (FrQ_uJ1 FrQ_rf (by omega)) (by omega)) (by omega)) (by omega)) (by omega)) (by omega)) rfl (fun o ho => by try simp (disch := omega) only [uJ_row, uJ_1, uJ_nk, uJ_no, uJ_eq]) (fun k k1 k2 k3 => by try simp (disch := omega) only [uJ_row, uJ_1, uJ_nk, uJ_no, uJ_eq])
    unfold isLnM lnT lnN
    rw [← eA, ← eB, ← eC]
    first
    | (rw [if_pos (by omega)]
       refine ⟨?_, ?_, ?_⟩
       · try simp (disch := omega) only [uJ_row, uJ_1, uJ_nk, uJ_no, uJ_eq]; rw [e126, e118, eg2, Int.tdiv_neg, Int.neg_tdiv]
       · try simp (disch := omega) only [uJ_row, uJ_1, uJ_nk, uJ_no, uJ_eq]; rw [e136, e118, eg2, Int.tdiv_neg, Int.neg_tdiv]
       · try simp (disch := omega) only [uJ_row, uJ_1, uJ_nk, uJ_no, uJ_eq]; rw [e146, e118, eg2, Int.tdiv_neg, Int.neg_tdiv])
    | (rw [if_neg (by omega)]
       refine ⟨?_, ?_, ?_⟩
       · try simp (disch := omega) only [uJ_row, uJ_1, uJ_nk, uJ_no, uJ_eq]; rw [e126, eg2]
       · try simp (disch := omega) only [uJ_row, uJ_1, uJ_nk, uJ_no, uJ_eq]; rw [e136, eg2]
       · try simp (disch := omega) only [uJ_row, uJ_1, uJ_nk, uJ_no, uJ_eq]; rw [e146, eg2])
  · skip
    refine z_aload_n (pc := 99) dX11_look_99 rfl ?_
    refine z_getJ (pc := 100) dX11_look_100 fk_X11_191 rfl (by decide) (by decide) (by decide) ?_
    try simp (disch := omega) only [uJ_row, uJ_1, uJ_nk, uJ_no, uJ_eq]
    refine z_lconst (pc := 103) (v := 0) dX11_look_103 (by decide) ?_
    refine zq_lc_ne (pc := 104) (cy := 0) (tgt := 120) dX11_look_104 dX11_look_105 rfl rfl (by decide) (fun h104 => ?_) (fun h104 => ?_)
    · skip
      refine z_aload_n (pc := 120) dX11_look_120 rfl ?_
      refine z_dup (pc := 121) dX11_look_121 rfl ?_
      refine z_getJ (pc := 122) dX11_look_122 fk_X11_191 rfl (by decide) (by decide) (by decide) ?_
      try simp (disch := omega) only [uJ_row, uJ_1, uJ_nk, uJ_no, uJ_eq]
      refine z_lload_n (pc := 125) dX11_look_125 rfl ?_
      refine z_ldivG (pc := 126) dX11_look_126 rfl rfl (by omega) (by omega) (by omega) (fun v126 e126 => ?_)
      refine z_putJ (pc := 127) dX11_look_127 fk_X11_191 rfl (by decide) (by decide) (by decide) ?_
      refine z_aload_n (pc := 130) dX11_look_130 rfl ?_
      refine z_dup (pc := 131) dX11_look_131 rfl ?_
      refine z_getJ (pc := 132) dX11_look_132 fk_X11_194 rfl (by decide) (by decide) (by decide) ?_
      try simp (disch := omega) only [uJ_row, uJ_1, uJ_nk, uJ_no, uJ_eq]
      refine z_lload_n (pc := 135) dX11_look_135 rfl ?_
      refine z_ldivG (pc := 136) dX11_look_136 rfl rfl (by omega) (by omega) (by omega) (fun v136 e136 => ?_)
      refine z_putJ (pc := 137) dX11_look_137 fk_X11_194 rfl (by decide) (by decide) (by decide) ?_
      refine z_aload_n (pc := 140) dX11_look_140 rfl ?_
      refine z_dup (pc := 141) dX11_look_141 rfl ?_
      refine z_getJ (pc := 142) dX11_look_142 fk_X11_197 rfl (by decide) (by decide) (by decide) ?_
      try simp (disch := omega) only [uJ_row, uJ_1, uJ_nk, uJ_no, uJ_eq]
      refine z_lload_n (pc := 145) dX11_look_145 rfl ?_
      refine z_ldivG (pc := 146) dX11_look_146 rfl rfl (by omega) (by omega) (by omega) (fun v146 e146 => ?_)
      refine z_putJ (pc := 147) dX11_look_147 fk_X11_197 rfl (by decide) (by decide) (by decide) ?_
      refine z_vret (pc := 150) dX11_look_150 rfl ?_
      refine h _ ?_ (FrQ_uJ1 (FrQ_uJ1 (FrQ_uJ1 (FrQ_uJ1 (FrQ_uJ1 (FrQ_uJ1 FrQ_rf (by omega)) (by omega)) (by omega)) (by omega)) (by omega)) (by omega)) rfl (fun o ho => by try simp (disch := omega) only [uJ_row, uJ_1, uJ_nk, uJ_no, uJ_eq]) (fun k k1 k2 k3 => by try simp (disch := omega) only [uJ_row, uJ_1, uJ_nk, uJ_no, uJ_eq])
      unfold isLnM lnT lnN
      rw [← eA, ← eB, ← eC]
      first
      | (rw [if_pos (by omega)]
         refine ⟨?_, ?_, ?_⟩
         · try simp (disch := omega) only [uJ_row, uJ_1, uJ_nk, uJ_no, uJ_eq]; rw [e126, e118, eg2, Int.tdiv_neg, Int.neg_tdiv]
         · try simp (disch := omega) only [uJ_row, uJ_1, uJ_nk, uJ_no, uJ_eq]; rw [e136, e118, eg2, Int.tdiv_neg, Int.neg_tdiv]
         · try simp (disch := omega) only [uJ_row, uJ_1, uJ_nk, uJ_no, uJ_eq]; rw [e146, e118, eg2, Int.tdiv_neg, Int.neg_tdiv])
      | (rw [if_neg (by omega)]
         refine ⟨?_, ?_, ?_⟩
         · try simp (disch := omega) only [uJ_row, uJ_1, uJ_nk, uJ_no, uJ_eq]; rw [e126, eg2]
         · try simp (disch := omega) only [uJ_row, uJ_1, uJ_nk, uJ_no, uJ_eq]; rw [e136, eg2]
         · try simp (disch := omega) only [uJ_row, uJ_1, uJ_nk, uJ_no, uJ_eq]; rw [e146, eg2])
    · skip
      refine z_aload_n (pc := 108) dX11_look_108 rfl ?_
      refine z_getJ (pc := 109) dX11_look_109 fk_X11_194 rfl (by decide) (by decide) (by decide) ?_
      try simp (disch := omega) only [uJ_row, uJ_1, uJ_nk, uJ_no, uJ_eq]
      refine z_lconst (pc := 112) (v := 0) dX11_look_112 (by decide) ?_
      refine zq_lc_ge (pc := 113) (cy := 0) (tgt := 120) dX11_look_113 dX11_look_114 rfl rfl (by decide) (fun h113 => ?_) (fun h113 => ?_)
      · skip
        refine z_aload_n (pc := 120) dX11_look_120 rfl ?_
        refine z_dup (pc := 121) dX11_look_121 rfl ?_
        refine z_getJ (pc := 122) dX11_look_122 fk_X11_191 rfl (by decide) (by decide) (by decide) ?_
        try simp (disch := omega) only [uJ_row, uJ_1, uJ_nk, uJ_no, uJ_eq]
        refine z_lload_n (pc := 125) dX11_look_125 rfl ?_
        refine z_ldivG (pc := 126) dX11_look_126 rfl rfl (by omega) (by omega) (by omega) (fun v126 e126 => ?_)
        refine z_putJ (pc := 127) dX11_look_127 fk_X11_191 rfl (by decide) (by decide) (by decide) ?_
        refine z_aload_n (pc := 130) dX11_look_130 rfl ?_
        refine z_dup (pc := 131) dX11_look_131 rfl ?_
        refine z_getJ (pc := 132) dX11_look_132 fk_X11_194 rfl (by decide) (by decide) (by decide) ?_
        try simp (disch := omega) only [uJ_row, uJ_1, uJ_nk, uJ_no, uJ_eq]
        refine z_lload_n (pc := 135) dX11_look_135 rfl ?_
        refine z_ldivG (pc := 136) dX11_look_136 rfl rfl (by omega) (by omega) (by omega) (fun v136 e136 => ?_)
        refine z_putJ (pc := 137) dX11_look_137 fk_X11_194 rfl (by decide) (by decide) (by decide) ?_
        refine z_aload_n (pc := 140) dX11_look_140 rfl ?_
        refine z_dup (pc := 141) dX11_look_141 rfl ?_
        refine z_getJ (pc := 142) dX11_look_142 fk_X11_197 rfl (by decide) (by decide) (by decide) ?_
        try simp (disch := omega) only [uJ_row, uJ_1, uJ_nk, uJ_no, uJ_eq]
        refine z_lload_n (pc := 145) dX11_look_145 rfl ?_
        refine z_ldivG (pc := 146) dX11_look_146 rfl rfl (by omega) (by omega) (by omega) (fun v146 e146 => ?_)
        refine z_putJ (pc := 147) dX11_look_147 fk_X11_197 rfl (by decide) (by decide) (by decide) ?_
        refine z_vret (pc := 150) dX11_look_150 rfl ?_
        refine h _ ?_ (FrQ_uJ1 (FrQ_uJ1 (FrQ_uJ1 (FrQ_uJ1 (FrQ_uJ1 (FrQ_uJ1 FrQ_rf (by omega)) (by omega)) (by omega)) (by omega)) (by omega)) (by omega)) rfl (fun o ho => by try simp (disch := omega) only [uJ_row, uJ_1, uJ_nk, uJ_no, uJ_eq]) (fun k k1 k2 k3 => by try simp (disch := omega) only [uJ_row, uJ_1, uJ_nk, uJ_no, uJ_eq])
        unfold isLnM lnT lnN
        rw [← eA, ← eB, ← eC]
        first
        | (rw [if_pos (by omega)]
           refine ⟨?_, ?_, ?_⟩
           · try simp (disch := omega) only [uJ_row, uJ_1, uJ_nk, uJ_no, uJ_eq]; rw [e126, e118, eg2, Int.tdiv_neg, Int.neg_tdiv]
           · try simp (disch := omega) only [uJ_row, uJ_1, uJ_nk, uJ_no, uJ_eq]; rw [e136, e118, eg2, Int.tdiv_neg, Int.neg_tdiv]
           · try simp (disch := omega) only [uJ_row, uJ_1, uJ_nk, uJ_no, uJ_eq]; rw [e146, e118, eg2, Int.tdiv_neg, Int.neg_tdiv])
        | (rw [if_neg (by omega)]
           refine ⟨?_, ?_, ?_⟩
           · try simp (disch := omega) only [uJ_row, uJ_1, uJ_nk, uJ_no, uJ_eq]; rw [e126, eg2]
           · try simp (disch := omega) only [uJ_row, uJ_1, uJ_nk, uJ_no, uJ_eq]; rw [e136, eg2]
           · try simp (disch := omega) only [uJ_row, uJ_1, uJ_nk, uJ_no, uJ_eq]; rw [e146, eg2])
      · skip
        refine z_lload_n (pc := 117) dX11_look_117 rfl ?_
        refine z_lnegT (pc := 118) dX11_look_118 rfl (by omega) (by omega) (fun v118 e118 => ?_)
        refine z_lstore_n (pc := 119) dX11_look_119 rfl rfl (by dsimp only [setI, setL, List.set]) ?_
        refine z_aload_n (pc := 120) dX11_look_120 rfl ?_
        refine z_dup (pc := 121) dX11_look_121 rfl ?_
        refine z_getJ (pc := 122) dX11_look_122 fk_X11_191 rfl (by decide) (by decide) (by decide) ?_
        try simp (disch := omega) only [uJ_row, uJ_1, uJ_nk, uJ_no, uJ_eq]
        refine z_lload_n (pc := 125) dX11_look_125 rfl ?_
        refine z_ldivG (pc := 126) dX11_look_126 rfl rfl (by omega) (by omega) (by omega) (fun v126 e126 => ?_)
        refine z_putJ (pc := 127) dX11_look_127 fk_X11_191 rfl (by decide) (by decide) (by decide) ?_
        refine z_aload_n (pc := 130) dX11_look_130 rfl ?_
        refine z_dup (pc := 131) dX11_look_131 rfl ?_
        refine z_getJ (pc := 132) dX11_look_132 fk_X11_194 rfl (by decide) (by decide) (by decide) ?_
        try simp (disch := omega) only [uJ_row, uJ_1, uJ_nk, uJ_no, uJ_eq]
        refine z_lload_n (pc := 135) dX11_look_135 rfl ?_
        refine z_ldivG (pc := 136) dX11_look_136 rfl rfl (by omega) (by omega) (by omega) (fun v136 e136 => ?_)
        refine z_putJ (pc := 137) dX11_look_137 fk_X11_194 rfl (by decide) (by decide) (by decide) ?_
        refine z_aload_n (pc := 140) dX11_look_140 rfl ?_
        refine z_dup (pc := 141) dX11_look_141 rfl ?_
        refine z_getJ (pc := 142) dX11_look_142 fk_X11_197 rfl (by decide) (by decide) (by decide) ?_
        try simp (disch := omega) only [uJ_row, uJ_1, uJ_nk, uJ_no, uJ_eq]
        refine z_lload_n (pc := 145) dX11_look_145 rfl ?_
        refine z_ldivG (pc := 146) dX11_look_146 rfl rfl (by omega) (by omega) (by omega) (fun v146 e146 => ?_)
        refine z_putJ (pc := 147) dX11_look_147 fk_X11_197 rfl (by decide) (by decide) (by decide) ?_
        refine z_vret (pc := 150) dX11_look_150 rfl ?_
        refine h _ ?_ (FrQ_uJ1 (FrQ_uJ1 (FrQ_uJ1 (FrQ_uJ1 (FrQ_uJ1 (FrQ_uJ1 FrQ_rf (by omega)) (by omega)) (by omega)) (by omega)) (by omega)) (by omega)) rfl (fun o ho => by try simp (disch := omega) only [uJ_row, uJ_1, uJ_nk, uJ_no, uJ_eq]) (fun k k1 k2 k3 => by try simp (disch := omega) only [uJ_row, uJ_1, uJ_nk, uJ_no, uJ_eq])
        unfold isLnM lnT lnN
        rw [← eA, ← eB, ← eC]
        first
        | (rw [if_pos (by omega)]
           refine ⟨?_, ?_, ?_⟩
           · try simp (disch := omega) only [uJ_row, uJ_1, uJ_nk, uJ_no, uJ_eq]; rw [e126, e118, eg2, Int.tdiv_neg, Int.neg_tdiv]
           · try simp (disch := omega) only [uJ_row, uJ_1, uJ_nk, uJ_no, uJ_eq]; rw [e136, e118, eg2, Int.tdiv_neg, Int.neg_tdiv]
           · try simp (disch := omega) only [uJ_row, uJ_1, uJ_nk, uJ_no, uJ_eq]; rw [e146, e118, eg2, Int.tdiv_neg, Int.neg_tdiv])
        | (rw [if_neg (by omega)]
           refine ⟨?_, ?_, ?_⟩
           · try simp (disch := omega) only [uJ_row, uJ_1, uJ_nk, uJ_no, uJ_eq]; rw [e126, eg2]
           · try simp (disch := omega) only [uJ_row, uJ_1, uJ_nk, uJ_no, uJ_eq]; rw [e136, eg2]
           · try simp (disch := omega) only [uJ_row, uJ_1, uJ_nk, uJ_no, uJ_eq]; rw [e146, eg2])

theorem c_X11_at {l : Launch} {G : Gx} {d : Nat} {σ : Sg} {Q : Option Value → Sg → Prop} {p : Nat} {x1 : Int32} (hp : p < 40) (hx1 : x1.toInt = (p : Int)) (bp : ptM σ p) (l0 : (σ.2 1 23).toInt.natAbs ≤ 1000000) (l1 : (σ.2 1 24).toInt.natAbs ≤ 1000000) (l2 : (σ.2 1 25).toInt.natAbs ≤ 1000000) (h : ∀ r : Int64, r.toInt = (σ.2 1 23).toInt * (σ.1 31 p).toInt + (σ.2 1 24).toInt * (σ.1 32 p).toInt + (σ.2 1 25).toInt → Q (some (.long r)) σ) : Z l G M_X11_at (d) 0 [some (.ref 1), some (.int x1)] [] σ Q := by
  unfold ptM at bp
  have m1 := mulb (a := (σ.2 1 23).toInt) (b := (σ.1 31 p).toInt) (p := 1000000) (q := 300) (by omega) (by omega) (by omega) (by omega)
  have m2 := mulb (a := (σ.2 1 24).toInt) (b := (σ.1 32 p).toInt) (p := 1000000) (q := 300) (by omega) (by omega) (by omega) (by omega)
  refine z_sub (L' := [some (.ref 1), some (.int x1)]) ⟨rfl, rfl, trivial⟩ ?_
  refine z_aload_n (pc := 0) dX11_at_0 rfl ?_
  refine z_getJ (pc := 1) dX11_at_1 fk_X11_191 rfl (by decide) (by decide) (by decide) ?_
  refine z_aload_n (pc := 4) dX11_at_4 rfl ?_
  refine z_getR (pc := 5) (t := 31) dX11_at_5 fk_X11_7 rfl (by decide) (by decide) (by decide) rfl ?_
  refine z_iload_n (pc := 8) dX11_at_8 rfl ?_
  refine z_ialdN (pc := 9) p dX11_at_9 rfl (by decide) hx1 (by show _ < 40; omega) ?_
  refine z_i2lT (pc := 10) dX11_at_10 rfl (fun v10 e10 => ?_)
  refine z_lmulT (pc := 11) dX11_at_11 rfl rfl (by rw [e10]; omega) (by rw [e10]; omega) (fun v11 e11 => ?_)
  refine z_aload_n (pc := 12) dX11_at_12 rfl ?_
  refine z_getJ (pc := 13) dX11_at_13 fk_X11_194 rfl (by decide) (by decide) (by decide) ?_
  refine z_aload_n (pc := 16) dX11_at_16 rfl ?_
  refine z_getR (pc := 17) (t := 32) dX11_at_17 fk_X11_13 rfl (by decide) (by decide) (by decide) rfl ?_
  refine z_iload_n (pc := 20) dX11_at_20 rfl ?_
  refine z_ialdN (pc := 21) p dX11_at_21 rfl (by decide) hx1 (by show _ < 40; omega) ?_
  refine z_i2lT (pc := 22) dX11_at_22 rfl (fun v22 e22 => ?_)
  refine z_lmulT (pc := 23) dX11_at_23 rfl rfl (by rw [e22]; omega) (by rw [e22]; omega) (fun v23 e23 => ?_)
  refine z_laddT (pc := 24) dX11_at_24 rfl rfl (by rw [e11, e23, e10, e22]; omega) (by rw [e11, e23, e10, e22]; omega) (fun v24 e24 => ?_)
  refine z_aload_n (pc := 25) dX11_at_25 rfl ?_
  refine z_getJ (pc := 26) dX11_at_26 fk_X11_197 rfl (by decide) (by decide) (by decide) ?_
  refine z_laddT (pc := 29) dX11_at_29 rfl rfl (by rw [e24, e11, e23, e10, e22]; omega) (by rw [e24, e11, e23, e10, e22]; omega) (fun v29 e29 => ?_)
  refine z_lret (pc := 30) dX11_at_30 rfl ?_
  exact h _ (by rw [e29, e24, e11, e23, e10, e22])

theorem c_X11_lookAtLine {l : Launch} {G : Gx} {d : Nat} {σ : Sg} {Q : Option Value → Sg → Prop} {t : Int × Int × Int} (e0 : (σ.2 1 20).toInt = t.1) (e1 : (σ.2 1 21).toInt = t.2.1) (e2 : (σ.2 1 22).toInt = t.2.2) (h : ∀ τ, isLnM τ t → FrQ σ τ → Q none τ) : Z l G M_X11_lookAtLine (d) 0 [some (.ref 1)] [] σ Q := by
  refine z_sub (L' := [some (.ref 1)]) ⟨rfl, trivial⟩ ?_
  refine z_aload_n (pc := 0) dX11_lookAtLine_0 rfl ?_
  refine z_aload_n (pc := 1) dX11_lookAtLine_1 rfl ?_
  refine z_getJ (pc := 2) dX11_lookAtLine_2 fk_X11_185 rfl (by decide) (by decide) (by decide) ?_
  refine z_putJ (pc := 5) dX11_lookAtLine_5 fk_X11_191 rfl (by decide) (by decide) (by decide) ?_
  refine z_aload_n (pc := 8) dX11_lookAtLine_8 rfl ?_
  refine z_aload_n (pc := 9) dX11_lookAtLine_9 rfl ?_
  refine z_getJ (pc := 10) dX11_lookAtLine_10 fk_X11_47 rfl (by decide) (by decide) (by decide) ?_
  try simp (disch := omega) only [uJ_row, uJ_1, uJ_nk, uJ_no, uJ_eq]
  refine z_putJ (pc := 13) dX11_lookAtLine_13 fk_X11_194 rfl (by decide) (by decide) (by decide) ?_
  refine z_aload_n (pc := 16) dX11_lookAtLine_16 rfl ?_
  refine z_aload_n (pc := 17) dX11_lookAtLine_17 rfl ?_
  refine z_getJ (pc := 18) dX11_lookAtLine_18 fk_X11_188 rfl (by decide) (by decide) (by decide) ?_
  try simp (disch := omega) only [uJ_row, uJ_1, uJ_nk, uJ_no, uJ_eq]
  refine z_putJ (pc := 21) dX11_lookAtLine_21 fk_X11_197 rfl (by decide) (by decide) (by decide) ?_
  refine z_vret (pc := 24) dX11_lookAtLine_24 rfl ?_
  refine h _ ⟨?_, ?_, ?_⟩ (FrQ_uJ1 (FrQ_uJ1 (FrQ_uJ1 FrQ_rf (by omega)) (by omega)) (by omega))
  · try simp (disch := omega) only [uJ_row, uJ_1, uJ_nk, uJ_no, uJ_eq]; exact e0
  · try simp (disch := omega) only [uJ_row, uJ_1, uJ_nk, uJ_no, uJ_eq]; exact e1
  · try simp (disch := omega) only [uJ_row, uJ_1, uJ_nk, uJ_no, uJ_eq]; exact e2

theorem c_X11_putLine {l : Launch} {G : Gx} {d : Nat} {σ : Sg} {Q : Option Value → Sg → Prop} (h : ∀ τ, τ.1 = σ.1 → (∀ a, a ≠ 1 → τ.2 a = σ.2 a) → τ.2 1 20 = σ.2 1 23 → τ.2 1 21 = σ.2 1 24 → τ.2 1 22 = σ.2 1 25 → Q none τ) : Z l G M_X11_putLine (d) 0 [some (.ref 1)] [] σ Q := by
  refine z_sub (L' := [some (.ref 1)]) ⟨rfl, trivial⟩ ?_
  refine z_aload_n (pc := 0) dX11_putLine_0 rfl ?_
  refine z_aload_n (pc := 1) dX11_putLine_1 rfl ?_
  refine z_getJ (pc := 2) dX11_putLine_2 fk_X11_191 rfl (by decide) (by decide) (by decide) ?_
  refine z_putJ (pc := 5) dX11_putLine_5 fk_X11_185 rfl (by decide) (by decide) (by decide) ?_
  refine z_aload_n (pc := 8) dX11_putLine_8 rfl ?_
  refine z_aload_n (pc := 9) dX11_putLine_9 rfl ?_
  refine z_getJ (pc := 10) dX11_putLine_10 fk_X11_194 rfl (by decide) (by decide) (by decide) ?_
  try simp (disch := omega) only [uJ_row, uJ_1, uJ_nk, uJ_no, uJ_eq]
  refine z_putJ (pc := 13) dX11_putLine_13 fk_X11_47 rfl (by decide) (by decide) (by decide) ?_
  refine z_aload_n (pc := 16) dX11_putLine_16 rfl ?_
  refine z_aload_n (pc := 17) dX11_putLine_17 rfl ?_
  refine z_getJ (pc := 18) dX11_putLine_18 fk_X11_197 rfl (by decide) (by decide) (by decide) ?_
  try simp (disch := omega) only [uJ_row, uJ_1, uJ_nk, uJ_no, uJ_eq]
  refine z_putJ (pc := 21) dX11_putLine_21 fk_X11_188 rfl (by decide) (by decide) (by decide) ?_
  refine z_vret (pc := 24) dX11_putLine_24 rfl ?_
  refine h _ rfl (fun z hz => ?_) ?_ ?_ ?_
  · try simp (disch := omega) only [uJ_row, uJ_1, uJ_nk, uJ_no, uJ_eq]
  · try simp (disch := omega) only [uJ_row, uJ_1, uJ_nk, uJ_no, uJ_eq]
  · try simp (disch := omega) only [uJ_row, uJ_1, uJ_nk, uJ_no, uJ_eq]
  · try simp (disch := omega) only [uJ_row, uJ_1, uJ_nk, uJ_no, uJ_eq]

theorem c_X11_line {l : Launch} {G : Gx} {d : Nat} {σ : Sg} {Q : Option Value → Sg → Prop} {a : Ab} {x1 x2 x3 : Int32} (hr : rM σ a) (hk : abOk a) (h : ∀ (r : Int32) (τ : Sg), r.toInt = (sLine a x1 x2 x3).1 → rM τ (sLine a x1 x2 x3).2 → eqC σ τ → Q (some (.int r)) τ) : Z l G M_X11_line (d + 2) 0 [some (.ref 1), some (.int x1), some (.int x2), some (.int x3)] [] σ Q := by
  refine z_sub (L' := [some (.ref 1), some (.int x1), some (.int x2), some (.int x3), none, none]) ⟨rfl, rfl, rfl, rfl, trivial⟩ ?_
  refine z_iload_n (pc := 0) dX11_line_0 rfl ?_
  refine z_i2lT (pc := 1) dX11_line_1 rfl (fun v1 e1 => ?_)
  refine z_ldc2 (pc := 2) dX11_line_2 kc_X11_177 ?_
  refine z_ldc2 (pc := 5) dX11_line_5 kc_X11_179 ?_
  refine z_is3 (pc := 8) dX11_line_8 ks_X11_81 rfl rfl ?_
  refine c_X11_in (cl := -1000000) (cm := 1000000) (by first | assumption | rfl) (by decide) (by decide) (fun q8 => ?_) (fun q8 => ?_)
  · skip
    refine z_if_eq (pc := 11) (tgt := 42) dX11_line_11 rfl (fun hc => absurd hc (by decide)) (fun _ => ?_)
    refine z_iload_n (pc := 14) dX11_line_14 rfl ?_
    refine z_i2lT (pc := 15) dX11_line_15 rfl (fun v15 e15 => ?_)
    refine z_ldc2 (pc := 16) dX11_line_16 kc_X11_177 ?_
    refine z_ldc2 (pc := 19) dX11_line_19 kc_X11_179 ?_
    refine z_is3 (pc := 22) dX11_line_22 ks_X11_81 rfl rfl ?_
    refine c_X11_in (cl := -1000000) (cm := 1000000) (by first | assumption | rfl) (by decide) (by decide) (fun q22 => ?_) (fun q22 => ?_)
    · skip
      refine z_if_eq (pc := 25) (tgt := 42) dX11_line_25 rfl (fun hc => absurd hc (by decide)) (fun _ => ?_)
      refine z_iload_n (pc := 28) dX11_line_28 rfl ?_
      refine z_i2lT (pc := 29) dX11_line_29 rfl (fun v29 e29 => ?_)
      refine z_ldc2 (pc := 30) dX11_line_30 kc_X11_177 ?_
      refine z_ldc2 (pc := 33) dX11_line_33 kc_X11_179 ?_
      refine z_is3 (pc := 36) dX11_line_36 ks_X11_81 rfl rfl ?_
      refine c_X11_in (cl := -1000000) (cm := 1000000) (by first | assumption | rfl) (by decide) (by decide) (fun q36 => ?_) (fun q36 => ?_)
      · skip
        refine z_if_ne (pc := 39) (tgt := 45) dX11_line_39 rfl (fun _ => ?_) (fun hc => absurd hc (by decide))
        refine z_iload_n (pc := 45) dX11_line_45 rfl ?_
        refine zq_if_ne (pc := 46) (tgt := 56) dX11_line_46 rfl rfl (fun h46 => ?_) (fun h46 => ?_)
        · skip
          have h0 : x1.toInt ≠ 0 ∨ x2.toInt ≠ 0 := by omega
          have c1 : x1.toInt.natAbs ≤ 1000000 := by omega
          have c2 : x2.toInt.natAbs ≤ 1000000 := by omega
          have c3 : x3.toInt.natAbs ≤ 1000000 := by omega
          have hg1 := gg_le h0 c1 c2
          refine z_iload_n (pc := 56) dX11_line_56 rfl ?_
          refine z_i2lT (pc := 57) dX11_line_57 rfl (fun v57 e57 => ?_)
          refine z_iload_n (pc := 58) dX11_line_58 rfl ?_
          refine z_i2lT (pc := 59) dX11_line_59 rfl (fun v59 e59 => ?_)
          refine z_is2 (pc := 60) dX11_line_60 ks_X11_181 rfl rfl ?_
          refine c_dv (by omega) (by omega) (fun g1 eg1 => ?_)
          rw [e57, e59] at eg1
          refine z_iload_n (pc := 63) dX11_line_63 rfl ?_
          refine z_i2lT (pc := 64) dX11_line_64 rfl (fun v64 e64 => ?_)
          refine z_is2 (pc := 65) dX11_line_65 ks_X11_181 rfl rfl ?_
          refine c_dv (by omega) (by omega) (fun g2 eg2 => ?_)
          rw [eg1, e64] at eg2
          change g2.toInt = (g3 x1.toInt x2.toInt x3.toInt : Int) at eg2
          have hp3 := g3_pos x3.toInt h0
          refine z_lstore (pc := 68) dX11_line_68 rfl rfl (by dsimp only [setI, setL, List.set]) ?_
          refine z_aload_n (pc := 70) dX11_line_70 rfl ?_
          refine z_iload_n (pc := 71) dX11_line_71 rfl ?_
          refine z_i2lT (pc := 72) dX11_line_72 rfl (fun v72 e72 => ?_)
          refine z_lload (pc := 73) dX11_line_73 rfl ?_
          refine z_ldivT (pc := 75) dX11_line_75 rfl rfl (by omega) (fun v75 e75 => ?_)
          refine z_putJ (pc := 76) dX11_line_76 fk_X11_185 rfl (by decide) (by decide) (by decide) ?_
          refine z_aload_n (pc := 79) dX11_line_79 rfl ?_
          refine z_iload_n (pc := 80) dX11_line_80 rfl ?_
          refine z_i2lT (pc := 81) dX11_line_81 rfl (fun v81 e81 => ?_)
          refine z_lload (pc := 82) dX11_line_82 rfl ?_
          refine z_ldivT (pc := 84) dX11_line_84 rfl rfl (by omega) (fun v84 e84 => ?_)
          refine z_putJ (pc := 85) dX11_line_85 fk_X11_47 rfl (by decide) (by decide) (by decide) ?_
          refine z_aload_n (pc := 88) dX11_line_88 rfl ?_
          refine z_iload_n (pc := 89) dX11_line_89 rfl ?_
          refine z_i2lT (pc := 90) dX11_line_90 rfl (fun v90 e90 => ?_)
          refine z_lload (pc := 91) dX11_line_91 rfl ?_
          refine z_ldivT (pc := 93) dX11_line_93 rfl rfl (by omega) (fun v93 e93 => ?_)
          refine z_putJ (pc := 94) dX11_line_94 fk_X11_188 rfl (by decide) (by decide) (by decide) ?_
          refine z_iconst (pc := 97) (v := 1) dX11_line_97 (by decide) ?_
          refine z_iret (pc := 98) dX11_line_98 rfl ?_
          have e : sLine a x1 x2 x3 = _ := (if_neg (by omega)).trans (if_neg (by omega))
          exact h _ _ (by rw [e]; rfl) (by
            rw [e]
            refine rM_ln hr ⟨tdiv_abs hp3 c1, tdiv_abs hp3 c2, tdiv_abs hp3 c3⟩ (fun _ _ _ => rfl) hr.2.2.1 (fun o h1 _ => ⟨rfl, ?_⟩) ?_ ?_ ?_
            · try simp (disch := omega) only [uJ_row, uJ_1, uJ_nk, uJ_no, uJ_eq]
            · try simp (disch := omega) only [uJ_row, uJ_1, uJ_nk, uJ_no, uJ_eq]; rw [e75, e72, eg2]
            · try simp (disch := omega) only [uJ_row, uJ_1, uJ_nk, uJ_no, uJ_eq]; rw [e84, e81, eg2]
            · try simp (disch := omega) only [uJ_row, uJ_1, uJ_nk, uJ_no, uJ_eq]; rw [e93, e90, eg2]) (eqC_uJ (eqC_uJ (eqC_uJ eqC_rf rfl) rfl) rfl)
        · skip
          refine z_iload_n (pc := 49) dX11_line_49 rfl ?_
          refine zq_if_ne (pc := 50) (tgt := 56) dX11_line_50 rfl rfl (fun h50 => ?_) (fun h50 => ?_)
          · skip
            have h0 : x1.toInt ≠ 0 ∨ x2.toInt ≠ 0 := by omega
            have c1 : x1.toInt.natAbs ≤ 1000000 := by omega
            have c2 : x2.toInt.natAbs ≤ 1000000 := by omega
            have c3 : x3.toInt.natAbs ≤ 1000000 := by omega
            have hg1 := gg_le h0 c1 c2
            refine z_iload_n (pc := 56) dX11_line_56 rfl ?_
            refine z_i2lT (pc := 57) dX11_line_57 rfl (fun v57 e57 => ?_)
            refine z_iload_n (pc := 58) dX11_line_58 rfl ?_
            refine z_i2lT (pc := 59) dX11_line_59 rfl (fun v59 e59 => ?_)
            refine z_is2 (pc := 60) dX11_line_60 ks_X11_181 rfl rfl ?_
            refine c_dv (by omega) (by omega) (fun g1 eg1 => ?_)
            rw [e57, e59] at eg1
            refine z_iload_n (pc := 63) dX11_line_63 rfl ?_
            refine z_i2lT (pc := 64) dX11_line_64 rfl (fun v64 e64 => ?_)
            refine z_is2 (pc := 65) dX11_line_65 ks_X11_181 rfl rfl ?_
            refine c_dv (by omega) (by omega) (fun g2 eg2 => ?_)
            rw [eg1, e64] at eg2
            change g2.toInt = (g3 x1.toInt x2.toInt x3.toInt : Int) at eg2
            have hp3 := g3_pos x3.toInt h0
            refine z_lstore (pc := 68) dX11_line_68 rfl rfl (by dsimp only [setI, setL, List.set]) ?_
            refine z_aload_n (pc := 70) dX11_line_70 rfl ?_
            refine z_iload_n (pc := 71) dX11_line_71 rfl ?_
            refine z_i2lT (pc := 72) dX11_line_72 rfl (fun v72 e72 => ?_)
            refine z_lload (pc := 73) dX11_line_73 rfl ?_
            refine z_ldivT (pc := 75) dX11_line_75 rfl rfl (by omega) (fun v75 e75 => ?_)
            refine z_putJ (pc := 76) dX11_line_76 fk_X11_185 rfl (by decide) (by decide) (by decide) ?_
            refine z_aload_n (pc := 79) dX11_line_79 rfl ?_
            refine z_iload_n (pc := 80) dX11_line_80 rfl ?_
            refine z_i2lT (pc := 81) dX11_line_81 rfl (fun v81 e81 => ?_)
            refine z_lload (pc := 82) dX11_line_82 rfl ?_
            refine z_ldivT (pc := 84) dX11_line_84 rfl rfl (by omega) (fun v84 e84 => ?_)
            refine z_putJ (pc := 85) dX11_line_85 fk_X11_47 rfl (by decide) (by decide) (by decide) ?_
            refine z_aload_n (pc := 88) dX11_line_88 rfl ?_
            refine z_iload_n (pc := 89) dX11_line_89 rfl ?_
            refine z_i2lT (pc := 90) dX11_line_90 rfl (fun v90 e90 => ?_)
            refine z_lload (pc := 91) dX11_line_91 rfl ?_
            refine z_ldivT (pc := 93) dX11_line_93 rfl rfl (by omega) (fun v93 e93 => ?_)
            refine z_putJ (pc := 94) dX11_line_94 fk_X11_188 rfl (by decide) (by decide) (by decide) ?_
            refine z_iconst (pc := 97) (v := 1) dX11_line_97 (by decide) ?_
            refine z_iret (pc := 98) dX11_line_98 rfl ?_
            have e : sLine a x1 x2 x3 = _ := (if_neg (by omega)).trans (if_neg (by omega))
            exact h _ _ (by rw [e]; rfl) (by
              rw [e]
              refine rM_ln hr ⟨tdiv_abs hp3 c1, tdiv_abs hp3 c2, tdiv_abs hp3 c3⟩ (fun _ _ _ => rfl) hr.2.2.1 (fun o h1 _ => ⟨rfl, ?_⟩) ?_ ?_ ?_
              · try simp (disch := omega) only [uJ_row, uJ_1, uJ_nk, uJ_no, uJ_eq]
              · try simp (disch := omega) only [uJ_row, uJ_1, uJ_nk, uJ_no, uJ_eq]; rw [e75, e72, eg2]
              · try simp (disch := omega) only [uJ_row, uJ_1, uJ_nk, uJ_no, uJ_eq]; rw [e84, e81, eg2]
              · try simp (disch := omega) only [uJ_row, uJ_1, uJ_nk, uJ_no, uJ_eq]; rw [e93, e90, eg2]) (eqC_uJ (eqC_uJ (eqC_uJ eqC_rf rfl) rfl) rfl)
          · skip
            refine z_ldc (pc := 53) dX11_line_53 kc_X11_176 ?_
            refine z_iret (pc := 55) dX11_line_55 rfl ?_
            have e : sLine a x1 x2 x3 = _ := (if_neg (by omega)).trans (if_pos (by omega))
            exact h _ _ (by rw [e]; rfl) (by rw [e]; exact hr) eqC_rf
      · skip
        refine z_if_ne (pc := 39) (tgt := 45) dX11_line_39 rfl (fun hc => absurd hc (by decide)) (fun _ => ?_)
        refine z_ldc (pc := 42) dX11_line_42 kc_X11_91 ?_
        refine z_iret (pc := 44) dX11_line_44 rfl ?_
        have e : sLine a x1 x2 x3 = _ := if_pos (by omega)
        exact h _ _ (by rw [e]; rfl) (by rw [e]; exact hr) eqC_rf
    · skip
      refine z_if_eq (pc := 25) (tgt := 42) dX11_line_25 rfl (fun _ => ?_) (fun hc => absurd hc (by decide))
      refine z_ldc (pc := 42) dX11_line_42 kc_X11_91 ?_
      refine z_iret (pc := 44) dX11_line_44 rfl ?_
      have e : sLine a x1 x2 x3 = _ := if_pos (by omega)
      exact h _ _ (by rw [e]; rfl) (by rw [e]; exact hr) eqC_rf
  · skip
    refine z_if_eq (pc := 11) (tgt := 42) dX11_line_11 rfl (fun _ => ?_) (fun hc => absurd hc (by decide))
    refine z_ldc (pc := 42) dX11_line_42 kc_X11_91 ?_
    refine z_iret (pc := 44) dX11_line_44 rfl ?_
    have e : sLine a x1 x2 x3 = _ := if_pos (by omega)
    exact h _ _ (by rw [e]; rfl) (by rw [e]; exact hr) eqC_rf

theorem lnT_abs {x1 y1 x2 y2 : Int} (b1 : -300 ≤ x1 ∧ x1 ≤ 300) (b2 : -300 ≤ y1 ∧ y1 ≤ 300) (b3 : -300 ≤ x2 ∧ x2 ≤ 300) (b4 : -300 ≤ y2 ∧ y2 ≤ 300) (ha : x1 ≠ x2 ∨ y1 ≠ y2) : (lnT x1 y1 x2 y2).1.natAbs ≤ 180000 ∧ (lnT x1 y1 x2 y2).2.1.natAbs ≤ 180000 ∧ (lnT x1 y1 x2 y2).2.2.natAbs ≤ 180000 := by
  have m1 := mulb (a := x1) (b := y2) (p := 300) (q := 300) (by omega) (by omega) (by omega) (by omega)
  have m2 := mulb (a := x2) (b := y1) (p := 300) (q := 300) (by omega) (by omega) (by omega) (by omega)
  exact lnN_abs (by omega) (by omega) (by omega) (by omega)

theorem c_X11_through {l : Launch} {G : Gx} {d : Nat} {σ : Sg} {Q : Option Value → Sg → Prop} {a : Ab} {x1 x2 : Int32} (hr : rM σ a) (hk : abOk a) (h : ∀ (r : Int32) (τ : Sg), r.toInt = (sThrough a x1 x2).1 → rM τ (sThrough a x1 x2).2 → eqC σ τ → Q (some (.int r)) τ) : Z l G M_X11_through (d + 2) 0 [some (.ref 1), some (.int x1), some (.int x2)] [] σ Q := by
  have hg := hr.1.1
  have hn := hk.1
  refine z_sub (L' := [some (.ref 1), some (.int x1), some (.int x2)]) ⟨rfl, rfl, rfl, trivial⟩ ?_
  refine z_aload_n (pc := 0) dX11_through_0 rfl ?_
  refine z_iload_n (pc := 1) dX11_through_1 rfl ?_
  refine z_iv1 (pc := 2) dX11_through_2 kv_X11_131 rfl (by decide) (by decide) rfl rfl ?_
  refine c_X11_isPlant (by omega) (fun q2 => ?_) (fun q2 => ?_)
  · skip
    refine z_if_eq (pc := 5) (tgt := 16) dX11_through_5 rfl (fun hc => absurd hc (by decide)) (fun _ => ?_)
    refine z_aload_n (pc := 8) dX11_through_8 rfl ?_
    refine z_iload_n (pc := 9) dX11_through_9 rfl ?_
    refine z_iv1 (pc := 10) dX11_through_10 kv_X11_131 rfl (by decide) (by decide) rfl rfl ?_
    refine c_X11_isPlant (by omega) (fun q10 => ?_) (fun q10 => ?_)
    · skip
      refine z_if_ne (pc := 13) (tgt := 19) dX11_through_13 rfl (fun _ => ?_) (fun hc => absurd hc (by decide))
      obtain ⟨i, hi, hie⟩ : ∃ i : Nat, i < a.1.1 ∧ x1.toInt = (i : Int) := ⟨x1.toInt.toNat, by omega, by omega⟩
      obtain ⟨j, hj, hje⟩ : ∃ j : Nat, j < a.1.1 ∧ x2.toInt = (j : Int) := ⟨x2.toInt.toNat, by omega, by omega⟩
      have hp : plM σ i (a.1.2 i) := hr.1.2 i hi
      have hq : plM σ j (a.1.2 j) := hr.1.2 j hj
      have hpk := hk.2.1 i hi
      have hqk := hk.2.1 j hj
      unfold ptOk at hpk hqk
      have ex1 : (σ.1 31 i).toInt = (a.1.2 i).1.toInt := by rw [hp.1]
      have ey1 : (σ.1 32 i).toInt = (a.1.2 i).2.1.toInt := by rw [hp.2.1]
      have ex2 : (σ.1 31 j).toInt = (a.1.2 j).1.toInt := by rw [hq.1]
      have ey2 : (σ.1 32 j).toInt = (a.1.2 j).2.1.toInt := by rw [hq.2.1]
      refine z_aload_n (pc := 19) dX11_through_19 rfl ?_
      refine z_getR (pc := 20) (t := 35) dX11_through_20 fk_X11_22 rfl (by decide) (by decide) (by decide) rfl ?_
      refine z_iload_n (pc := 23) dX11_through_23 rfl ?_
      refine z_zaldN (pc := 24) i dX11_through_24 rfl (by decide) hie (by show _ < 40; omega) ?_
      refine zq_if_ne (pc := 25) (tgt := 37) dX11_through_25 rfl rfl (fun h25 => ?_) (fun h25 => ?_)
      · skip
        refine z_aload_n (pc := 37) dX11_through_37 rfl ?_
        refine z_iconst (pc := 38) (v := 1) dX11_through_38 (by decide) ?_
        refine z_iv1 (pc := 39) dX11_through_39 kv_X11_92 rfl (by decide) (by decide) rfl rfl ?_
        refine c_X11_finds (by decide) (by decide) (fun r er => ?_)
        refine z_iret (pc := 42) dX11_through_42 rfl ?_
        have hor : (a.1.2 i).2.2.2.2 = true ∨ (a.1.2 j).2.2.2.2 = true := by first | exact Or.inl (maway_of hp.2.2.2.2 h25) | exact Or.inr (maway_of hq.2.2.2.2 h34)
        have e : sThrough a x1 x2 = _ := sThrough_2 hi hj hie hje hor
        exact h _ _ (by rw [e, er]; rfl) (by rw [e]; exact rM_stat hr) (eqC_uI eqC_rf rfl)
      · skip
        refine z_aload_n (pc := 28) dX11_through_28 rfl ?_
        refine z_getR (pc := 29) (t := 35) dX11_through_29 fk_X11_22 rfl (by decide) (by decide) (by decide) rfl ?_
        refine z_iload_n (pc := 32) dX11_through_32 rfl ?_
        refine z_zaldN (pc := 33) j dX11_through_33 rfl (by decide) hje (by show _ < 40; omega) ?_
        refine zq_if_eq (pc := 34) (tgt := 43) dX11_through_34 rfl rfl (fun h34 => ?_) (fun h34 => ?_)
        · skip
          refine z_aload_n (pc := 43) dX11_through_43 rfl ?_
          refine z_iload_n (pc := 44) dX11_through_44 rfl ?_
          refine z_iload_n (pc := 45) dX11_through_45 rfl ?_
          refine z_iv2 (pc := 46) dX11_through_46 kv_X11_200 rfl (by decide) (by decide) rfl rfl ?_
          refine c_X11_isApart (p := i) (q := j) (by omega) hie (by omega) hje (fun qa => ?_) (fun qa => ?_)
          · skip
            refine z_if_ne (pc := 49) (tgt := 55) dX11_through_49 rfl (fun _ => ?_) (fun hc => absurd hc (by decide))
            refine z_aload_n (pc := 55) dX11_through_55 rfl ?_
            refine z_iload_n (pc := 56) dX11_through_56 rfl ?_
            refine z_iload_n (pc := 57) dX11_through_57 rfl ?_
            refine z_iv2 (pc := 58) dX11_through_58 kv_X11_203 rfl (by decide) (by decide) rfl rfl ?_
            refine c_X11_look (p := i) (q := j) (by omega) hie (by omega) hje (by unfold ptM; omega) (by unfold ptM; omega) (by omega) (fun τ hL hF _ _ _ => ?_)
            rw [ex1, ey1, ex2, ey2] at hL
            have hab := lnT_abs (x1 := (a.1.2 i).1.toInt) (y1 := (a.1.2 i).2.1.toInt) (x2 := (a.1.2 j).1.toInt) (y2 := (a.1.2 j).2.1.toInt) (by omega) (by omega) (by omega) (by omega) (by omega)
            refine z_aload_n (pc := 61) dX11_through_61 rfl ?_
            refine z_iv0 (pc := 62) dX11_through_62 kv_X11_207 rfl (by decide) (by decide) rfl rfl ?_
            refine c_X11_putLine (fun υ u1 u2 u20 u21 u22 => ?_)
            refine z_aload_n (pc := 65) dX11_through_65 rfl ?_
            refine z_iconst (pc := 66) (v := 1) dX11_through_66 (by decide) ?_
            refine z_iv1 (pc := 67) dX11_through_67 kv_X11_96 rfl (by decide) (by decide) rfl rfl ?_
            refine c_X11_well ?_
            refine z_iret (pc := 70) dX11_through_70 rfl ?_
            have e : sThrough a x1 x2 = _ := sThrough_4 hi hj hie hje (mthere_of hp.2.2.2.2 h25) (mthere_of hq.2.2.2.2 h34) (by omega)
            exact h _ _ (by rw [e]; rfl) (by
              rw [e]
              refine rM_ln hr (by omega) (fun k h16 h29 => ?_) (uI_eq _ _ _ _) (fun o h1 h3 => ⟨?_, ?_⟩) ?_ ?_ ?_
              · rw [uI_nk h16, u1]; exact hF.2.1 k h29
              · rw [uI_row h1, u1]; exact (hF.1 o h1 h3).1
              · rw [uI_2, u2 o h1]; exact (hF.1 o h1 h3).2
              · rw [uI_2, u20]; exact hL.1
              · rw [uI_2, u21]; exact hL.2.1
              · rw [uI_2, u22]; exact hL.2.2) (eqC_uI (fun o ho => ⟨by rw [u1]; exact (FrQ_C hF o ho).1, by rw [u2 o (fun e => by rw [e] at ho; cases ho)]; exact (FrQ_C hF o ho).2⟩) rfl)
          · skip
            refine z_if_ne (pc := 49) (tgt := 55) dX11_through_49 rfl (fun hc => absurd hc (by decide)) (fun _ => ?_)
            refine z_ldc (pc := 52) dX11_through_52 kc_X11_176 ?_
            refine z_iret (pc := 54) dX11_through_54 rfl ?_
            have e : sThrough a x1 x2 = _ := sThrough_3 hi hj hie hje (mthere_of hp.2.2.2.2 h25) (mthere_of hq.2.2.2.2 h34) (by omega)
            exact h _ _ (by rw [e]; rfl) (by rw [e]; exact hr) eqC_rf
        · skip
          refine z_aload_n (pc := 37) dX11_through_37 rfl ?_
          refine z_iconst (pc := 38) (v := 1) dX11_through_38 (by decide) ?_
          refine z_iv1 (pc := 39) dX11_through_39 kv_X11_92 rfl (by decide) (by decide) rfl rfl ?_
          refine c_X11_finds (by decide) (by decide) (fun r er => ?_)
          refine z_iret (pc := 42) dX11_through_42 rfl ?_
          have hor : (a.1.2 i).2.2.2.2 = true ∨ (a.1.2 j).2.2.2.2 = true := by first | exact Or.inl (maway_of hp.2.2.2.2 h25) | exact Or.inr (maway_of hq.2.2.2.2 h34)
          have e : sThrough a x1 x2 = _ := sThrough_2 hi hj hie hje hor
          exact h _ _ (by rw [e, er]; rfl) (by rw [e]; exact rM_stat hr) (eqC_uI eqC_rf rfl)
    · skip
      refine z_if_ne (pc := 13) (tgt := 19) dX11_through_13 rfl (fun hc => absurd hc (by decide)) (fun _ => ?_)
      refine z_ldc (pc := 16) dX11_through_16 kc_X11_91 ?_
      refine z_iret (pc := 18) dX11_through_18 rfl ?_
      have e : sThrough a x1 x2 = _ := sThrough_1 (by omega)
      exact h _ _ (by rw [e]; rfl) (by rw [e]; exact hr) eqC_rf
  · skip
    refine z_if_eq (pc := 5) (tgt := 16) dX11_through_5 rfl (fun _ => ?_) (fun hc => absurd hc (by decide))
    refine z_ldc (pc := 16) dX11_through_16 kc_X11_91 ?_
    refine z_iret (pc := 18) dX11_through_18 rfl ?_
    have e : sThrough a x1 x2 = _ := sThrough_1 (by omega)
    exact h _ _ (by rw [e]; rfl) (by rw [e]; exact hr) eqC_rf

theorem c_X11_lineAt {l : Launch} {G : Gx} {d : Nat} {σ : Sg} {Q : Option Value → Sg → Prop} {a : Ab} {x1 : Int32} (hr : rM σ a) (hk : abOk a) (h : ∀ r : Int32, r.toInt = sLineAt a x1 → Q (some (.int r)) σ) : Z l G M_X11_lineAt (d + 1) 0 [some (.ref 1), some (.int x1)] [] σ Q := by
  have hL := hr.2.2.2.2.1
  have k1 := hk.2.2.2.2.1
  have k2 := hk.2.2.2.2.2.1
  have k3 := hk.2.2.2.2.2.2.1
  unfold lnOk at k1 k2 k3
  refine z_sub (L' := [some (.ref 1), some (.int x1)]) ⟨rfl, rfl, trivial⟩ ?_
  refine z_iload_n (pc := 0) dX11_lineAt_0 rfl ?_
  refine z_i2lT (pc := 1) dX11_lineAt_1 rfl (fun v1 e1 => ?_)
  refine z_lconst (pc := 2) (v := 0) dX11_lineAt_2 (by decide) ?_
  refine z_ldc2 (pc := 3) dX11_lineAt_3 kc_X11_89 ?_
  refine z_is3 (pc := 6) dX11_lineAt_6 ks_X11_81 rfl rfl ?_
  refine c_X11_in (cl := 0) (cm := 2) (by first | assumption | rfl) (by decide) (by decide) (fun q6 => ?_) (fun q6 => ?_)
  · skip
    refine z_if_ne (pc := 9) (tgt := 17) dX11_lineAt_9 rfl (fun _ => ?_) (fun hc => absurd hc (by decide))
    refine z_iload_n (pc := 17) dX11_lineAt_17 rfl ?_
    refine zq_if_ne (pc := 18) (tgt := 28) dX11_lineAt_18 rfl rfl (fun h18 => ?_) (fun h18 => ?_)
    · skip
      refine z_iload_n (pc := 28) dX11_lineAt_28 rfl ?_
      refine z_iconst (pc := 29) (v := 1) dX11_lineAt_29 (by decide) ?_
      refine zq_icmp_ne (pc := 30) (cy := 1) (tgt := 40) dX11_lineAt_30 rfl rfl (by decide) (fun h30 => ?_) (fun h30 => ?_)
      · skip
        refine z_aload_n (pc := 40) dX11_lineAt_40 rfl ?_
        refine z_getJ (pc := 41) dX11_lineAt_41 fk_X11_188 rfl (by decide) (by decide) (by decide) ?_
        have l1 := hL.1
        have l2 := hL.2.1
        have l3 := hL.2.2
        refine z_l2iT (pc := 44) dX11_lineAt_44 rfl (by omega) (by omega) (fun v44 e44 => ?_)
        refine z_iret (pc := 45) dX11_lineAt_45 rfl ?_
        first | exact h _ (((if_neg (by omega)).trans ((if_neg (by omega)).trans (if_neg (by omega)))).symm) | exact h _ (by rw [e44, hL.1]; exact (if_pos (by omega)).symm) | exact h _ (by rw [e44, hL.2.1]; exact ((if_neg (by omega)).trans (if_pos (by omega))).symm) | exact h _ (by rw [e44, hL.2.2]; exact ((if_neg (by omega)).trans ((if_neg (by omega)).trans (if_pos (by omega)))).symm)
      · skip
        refine z_aload_n (pc := 33) dX11_lineAt_33 rfl ?_
        refine z_getJ (pc := 34) dX11_lineAt_34 fk_X11_47 rfl (by decide) (by decide) (by decide) ?_
        refine z_goto (pc := 37) (tgt := 44) dX11_lineAt_37 rfl ?_
        have l1 := hL.1
        have l2 := hL.2.1
        have l3 := hL.2.2
        refine z_l2iT (pc := 44) dX11_lineAt_44 rfl (by omega) (by omega) (fun v44 e44 => ?_)
        refine z_iret (pc := 45) dX11_lineAt_45 rfl ?_
        first | exact h _ (((if_neg (by omega)).trans ((if_neg (by omega)).trans (if_neg (by omega)))).symm) | exact h _ (by rw [e44, hL.1]; exact (if_pos (by omega)).symm) | exact h _ (by rw [e44, hL.2.1]; exact ((if_neg (by omega)).trans (if_pos (by omega))).symm) | exact h _ (by rw [e44, hL.2.2]; exact ((if_neg (by omega)).trans ((if_neg (by omega)).trans (if_pos (by omega)))).symm)
    · skip
      refine z_aload_n (pc := 21) dX11_lineAt_21 rfl ?_
      refine z_getJ (pc := 22) dX11_lineAt_22 fk_X11_185 rfl (by decide) (by decide) (by decide) ?_
      refine z_goto (pc := 25) (tgt := 44) dX11_lineAt_25 rfl ?_
      have l1 := hL.1
      have l2 := hL.2.1
      have l3 := hL.2.2
      refine z_l2iT (pc := 44) dX11_lineAt_44 rfl (by omega) (by omega) (fun v44 e44 => ?_)
      refine z_iret (pc := 45) dX11_lineAt_45 rfl ?_
      first | exact h _ (((if_neg (by omega)).trans ((if_neg (by omega)).trans (if_neg (by omega)))).symm) | exact h _ (by rw [e44, hL.1]; exact (if_pos (by omega)).symm) | exact h _ (by rw [e44, hL.2.1]; exact ((if_neg (by omega)).trans (if_pos (by omega))).symm) | exact h _ (by rw [e44, hL.2.2]; exact ((if_neg (by omega)).trans ((if_neg (by omega)).trans (if_pos (by omega)))).symm)
  · skip
    refine z_if_ne (pc := 9) (tgt := 17) dX11_lineAt_9 rfl (fun hc => absurd hc (by decide)) (fun _ => ?_)
    refine z_ldc (pc := 12) dX11_lineAt_12 kc_X11_91 ?_
    refine z_goto (pc := 14) (tgt := 45) dX11_lineAt_14 rfl ?_
    refine z_iret (pc := 45) dX11_lineAt_45 rfl ?_
    first | exact h _ (((if_neg (by omega)).trans ((if_neg (by omega)).trans (if_neg (by omega)))).symm) | exact h _ (by rw [e44, hL.1]; exact (if_pos (by omega)).symm) | exact h _ (by rw [e44, hL.2.1]; exact ((if_neg (by omega)).trans (if_pos (by omega))).symm) | exact h _ (by rw [e44, hL.2.2]; exact ((if_neg (by omega)).trans ((if_neg (by omega)).trans (if_pos (by omega)))).symm)
