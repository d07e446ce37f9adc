theorem c_X11_in {l : Launch} {G : Gx} {d : Nat} {σ : Sg} {Q : Option Value → Sg → Prop} {v x y : Int64} {cv cl cm : Int} (hv : v.toInt = cv) (hx : x.toInt = cl) (hy : y.toInt = cm) (ht : cl ≤ cv ∧ cv ≤ cm → Q (some (.int 1)) σ) (hf : ¬ (cl ≤ cv ∧ cv ≤ cm) → Q (some (.int 0)) σ) : Z l G M_X11_in (d) 0 [some (.long v), none, some (.long x), none, some (.long y), none] [] σ Q := by
  refine z_sub (L' := [some (.long v), none, some (.long x), none, some (.long y), none]) ⟨rfl, rfl, rfl, trivial⟩ ?_
  refine z_lload_n (pc := 0) dX11_in_0 rfl ?_
  refine z_lload_n (pc := 1) dX11_in_1 rfl ?_
  refine zq_lc_lt (pc := 2) (tgt := 17) dX11_in_2 dX11_in_3 rfl rfl rfl (fun h2 => ?_) (fun h2 => ?_)
  · skip
    refine z_iconst (pc := 17) (v := 0) dX11_in_17 (by decide) ?_
    refine z_zret (pc := 18) dX11_in_18 rfl (by decide) ?_
    exact hf (by omega)
  · skip
    refine z_lload_n (pc := 6) dX11_in_6 rfl ?_
    refine z_lload (pc := 7) dX11_in_7 rfl ?_
    refine zq_lc_gt (pc := 9) (tgt := 17) dX11_in_9 dX11_in_10 rfl rfl rfl (fun h9 => ?_) (fun h9 => ?_)
    · skip
      refine z_iconst (pc := 17) (v := 0) dX11_in_17 (by decide) ?_
      refine z_zret (pc := 18) dX11_in_18 rfl (by decide) ?_
      exact hf (by omega)
    · skip
      refine z_iconst (pc := 13) (v := 1) dX11_in_13 (by decide) ?_
      refine z_goto (pc := 14) (tgt := 18) dX11_in_14 rfl ?_
      refine z_zret (pc := 18) dX11_in_18 rfl (by decide) ?_
      exact ht (by omega)

theorem c_X11_isBed {l : Launch} {G : Gx} {d : Nat} {σ : Sg} {Q : Option Value → Sg → Prop} {x : Int32} (ht : 0 ≤ x.toInt ∧ x.toInt < 8 → Q (some (.int 1)) σ) (hf : ¬ (0 ≤ x.toInt ∧ x.toInt < 8) → Q (some (.int 0)) σ) : Z l G M_X11_isBed (d + 1) 0 [some (.int x)] [] σ Q := by
  refine z_sub (L' := [some (.int x)]) ⟨rfl, trivial⟩ ?_
  refine z_iload_n (pc := 0) dX11_isBed_0 rfl ?_
  refine z_i2lT (pc := 1) dX11_isBed_1 rfl (fun v1 e1 => ?_)
  refine z_lconst (pc := 2) (v := 0) dX11_isBed_2 (by decide) ?_
  refine z_ldc2 (pc := 3) dX11_isBed_3 kc_X11_79 ?_
  refine z_is3 (pc := 6) dX11_isBed_6 ks_X11_81 rfl rfl ?_
  refine c_X11_in (cl := 0) (cm := 7) (by first | assumption | rfl) (by decide) (by decide) (fun q6 => ?_) (fun q6 => ?_)
  · skip
    refine z_zret (pc := 9) dX11_isBed_9 rfl (by decide) ?_
    exact ht (by omega)
  · skip
    refine z_zret (pc := 9) dX11_isBed_9 rfl (by decide) ?_
    exact hf (by omega)

theorem c_X11_finds {l : Launch} {G : Gx} {d : Nat} {σ : Sg} {Q : Option Value → Sg → Prop} {x : Int32} (h0 : 0 ≤ x.toInt) (h1 : x.toInt < 10) (h : ∀ r : Int32, r.toInt = -1000010 - x.toInt → Q (some (.int r)) (uI σ 1 16 x)) : Z l G M_X11_finds (d) 0 [some (.ref 1), some (.int x)] [] σ Q := by
  refine z_sub (L' := [some (.ref 1), some (.int x)]) ⟨rfl, rfl, trivial⟩ ?_
  refine z_aload_n (pc := 0) dX11_finds_0 rfl ?_
  refine z_iload_n (pc := 1) dX11_finds_1 rfl ?_
  refine z_putI (pc := 2) dX11_finds_2 fk_X11_75 rfl (by decide) (by decide) (by decide) ?_
  refine z_ldc (pc := 5) dX11_finds_5 kc_X11_78 ?_
  refine z_iload_n (pc := 7) dX11_finds_7 rfl ?_
  refine z_isubT (pc := 8) (cx := -1000010) dX11_finds_8 (by decide) rfl (by omega) (by omega) (fun v8 e8 => ?_)
  refine z_iret (pc := 9) dX11_finds_9 rfl ?_
  exact h _ (by assumption)

theorem c_X11_well {l : Launch} {G : Gx} {d : Nat} {σ : Sg} {Q : Option Value → Sg → Prop} {x : Int32} (h : Q (some (.int x)) (uI σ 1 16 0)) : Z l G M_X11_well (d) 0 [some (.ref 1), some (.int x)] [] σ Q := by
  refine z_sub (L' := [some (.ref 1), some (.int x)]) ⟨rfl, rfl, trivial⟩ ?_
  refine z_aload_n (pc := 0) dX11_well_0 rfl ?_
  refine z_iconst (pc := 1) (v := 0) dX11_well_1 (by decide) ?_
  refine z_putI (pc := 2) dX11_well_2 fk_X11_75 rfl (by decide) (by decide) (by decide) ?_
  refine z_iload_n (pc := 5) dX11_well_5 rfl ?_
  refine z_iret (pc := 6) dX11_well_6 rfl ?_
  exact h

/-- longs s, s + 1, .. of object o become those of f -/
def cR (σ : Sg) (o s n : Nat) (f : Nat → Int64) : Sg := (σ.1, fun a b => if a = o then (if s ≤ b ∧ b < s + n then f (b - s) else σ.2 a b) else σ.2 a b)
theorem cR_1 {σ : Sg} {o s n : Nat} {f : Nat → Int64} : (cR σ o s n f).1 = σ.1 := rfl
theorem cR_row {σ : Sg} {o s n a : Nat} {f : Nat → Int64} (h : a ≠ o) : (cR σ o s n f).2 a = σ.2 a := by funext b; simp [cR, h]
theorem cR_in {σ : Sg} {o s n b : Nat} {f : Nat → Int64} (h : s ≤ b) (h2 : b < s + n) : (cR σ o s n f).2 o b = f (b - s) := by simp [cR, h, h2]
theorem cR_out {σ : Sg} {o s n b : Nat} {f : Nat → Int64} (h : ¬ (s ≤ b ∧ b < s + n)) : (cR σ o s n f).2 o b = σ.2 o b := by simp [cR, h]
theorem cR_0 {σ : Sg} {o s : Nat} {f : Nat → Int64} : cR σ o s 0 f = σ := by
  refine Prod.ext rfl ?_
  funext a b
  by_cases h : a = o
  · subst h; exact cR_out (by omega)
  · rw [cR_row h]
theorem cR_step {σ : Sg} {o s n : Nat} {f : Nat → Int64} : uJ (cR σ o s n f) o (s + n) (f n) = cR σ o s (n + 1) f := by
  refine Prod.ext rfl ?_
  funext a b
  by_cases h : a = o
  · subst h
    by_cases hb : b = s + n
    · subst hb
      rw [uJ_eq, cR_in (by omega) (by omega)]
      congr 1
      omega
    · rw [uJ_nk hb]
      by_cases hc : s ≤ b ∧ b < s + n
      · rw [cR_in hc.1 hc.2, cR_in (by omega) (by omega)]
      · rw [cR_out hc, cR_out (by omega)]
  · rw [uJ_row h, cR_row h, cR_row h]
theorem eqC_cR {σ τ : Sg} {o s n : Nat} {f : Nat → Int64} (h : eqC σ τ) (ho : isM o = true) : eqC σ (cR τ o s n f) := fun a ha => by
  have hne : a ≠ o := fun e => by rw [e, ho] at ha; cases ha
  exact ⟨(h a ha).1, (cR_row hne).trans (h a ha).2⟩
/-- the model's other parts -/
theorem rM_of {σ τ : Sg} {a : Ab} {bd : Nat → Bd} {f : Int32} (hr : rM σ a) (h1 : ∀ k, k ≠ 16 → τ.1 1 k = σ.1 1 k) (h2 : ∀ o, o ≠ 1 → o ≠ 36 → o ≠ 37 → o ≠ 38 → o ≠ 39 → τ.1 o = σ.1 o ∧ τ.2 o = σ.2 o) (h3 : τ.2 1 = σ.2 1) (hb : rmB τ bd) (hf : τ.1 1 16 = f) : rM τ (a.1, bd, f, a.2.2.2) := by
  obtain ⟨r1, r2, r3, r4, r5, r6, r7⟩ := hr
  refine ⟨⟨by rw [h1 0 (by omega)]; exact r1.1, fun i hi => ?_⟩, hb, hf, ⟨by rw [h1 18 (by omega)]; exact r4.1, fun j hj => by rw [(h2 40 (by omega) (by omega) (by omega) (by omega) (by omega)).1]; exact r4.2.1 j hj, by rw [h1 19 (by omega)]; exact r4.2.2⟩, ⟨by rw [h3]; exact r5.1, by rw [h3]; exact r5.2.1, by rw [h3]; exact r5.2.2⟩, ?_, fun i hi => by rw [(h2 35 (by omega) (by omega) (by omega) (by omega) (by omega)).1]; exact r7 i hi⟩
  · rw [(h2 31 (by omega) (by omega) (by omega) (by omega) (by omega)).1, (h2 32 (by omega) (by omega) (by omega) (by omega) (by omega)).1, (h2 33 (by omega) (by omega) (by omega) (by omega) (by omega)).1, (h2 34 (by omega) (by omega) (by omega) (by omega) (by omega)).1, (h2 35 (by omega) (by omega) (by omega) (by omega) (by omega)).1]; exact r1.2 i hi
  · show rmU τ a.2.2.2.2.2
    cases hu : a.2.2.2.2.2 with
    | none => rw [hu] at r6; show (τ.1 1 6).toInt < 0; rw [h1 6 (by omega)]; exact r6
    | some q =>
      rw [hu] at r6
      obtain ⟨u, nw, p⟩ := q
      show (τ.1 1 6).toInt = _ ∧ τ.1 1 7 = _ ∧ (_ → τ.1 1 8 = _ ∧ τ.1 1 9 = _ ∧ τ.1 1 10 = _ ∧ τ.1 1 11 = _)
      rw [h1 6 (by omega), h1 7 (by omega), h1 8 (by omega), h1 9 (by omega), h1 10 (by omega), h1 11 (by omega)]; exact r6
theorem rmB_cong {σ τ : Sg} {bd : Nat → Bd} (h1 : τ.1 36 = σ.1 36) (h2 : τ.1 37 = σ.1 37) (h3 : τ.2 38 = σ.2 38) (h : rmB σ bd) : rmB τ bd := by
  unfold rmB
  rw [h1, h2, h3]
  exact h
theorem rM_stat {σ : Sg} {a : Ab} {f : Int32} (h : rM σ a) : rM (uI σ 1 16 f) (stat a f) :=
  rM_of h (fun k hk => uI_nk hk) (fun o h0 _ _ _ _ => ⟨uI_row h0, rfl⟩) rfl (rmB_cong (uI_row (by omega)) (uI_row (by omega)) rfl h.2.1) (uI_eq _ _ _ _)
theorem rM_bed {σ τ : Sg} {a : Ab} {b : Nat} {q : Bd} (h : rM σ a) (hk : abOk a) (hb : b < 8) (h1 : ∀ k, k ≠ 16 → τ.1 1 k = σ.1 1 k) (h2 : ∀ o, o ≠ 1 → o ≠ 36 → o ≠ 37 → o ≠ 38 → o ≠ 39 → τ.1 o = σ.1 o ∧ τ.2 o = σ.2 o) (h3 : τ.2 1 = σ.2 1)
    (h4 : τ.1 36 b = q.1) (h5 : q.1 ≠ 0 → τ.1 37 b = q.2.1 ∧ ∀ j : Nat, (j : Int) < q.2.1.toInt → τ.2 38 (100 * b + j) = q.2.2 j) (h6 : ∀ c, c ≠ b → τ.1 36 c = σ.1 36 c ∧ τ.1 37 c = σ.1 37 c) (h7 : ∀ t : Nat, (t < 100 * b ∨ 100 * b + 100 ≤ t) → τ.2 38 t = σ.2 38 t) (hf : τ.1 1 16 = 0) : rM τ (bedTo a b q) := by
  refine rM_of h h1 h2 h3 (fun c hc => ?_) hf
  by_cases e : c = b
  · subst e; simp only [va_up, if_true]; exact ⟨h4, h5⟩
  · simp only [va_up, if_neg e]
    rw [(h6 c e).1, (h6 c e).2]
    refine ⟨(h.2.1 c hc).1, fun hq => ⟨((h.2.1 c hc).2 hq).1, fun j hj => ?_⟩⟩
    have := ((hk.2.2.1 c hc).2.2 hq)
    rw [h7 _ (by omega)]
    exact ((h.2.1 c hc).2 hq).2 j hj

theorem c_X11_bed_loop {l : Launch} {G : Gx} {d : Nat} {σ : Sg} {Q : Option Value → Sg → Prop} {b n : Nat} {x1 x2 x3 : Int32} (hb : b < 8) (hbe : x1.toInt = (b : Int)) (hn : n ≤ 100) (hne : x3.toInt = (n : Int)) (h : Q (some (.int x3)) (uI (cR σ 38 (100 * b) n (fun _ => 0)) 1 16 0)) : ∀ (k i : Nat) (x : Int32), x.toInt = (i : Int) → i ≤ n → n - i < k → Z l G M_X11_bed (d + 1) 57 [some (.ref 1), some (.int x1), some (.int x2), some (.int x3), some (.int x)] [] (cR σ 38 (100 * b) i (fun _ => 0)) Q := by
  intro k
  induction k with
  | zero => intro i x hx hi hk; omega
  | succ k ih =>
  intro i x hx hi hk
  refine z_iload (pc := 57) dX11_bed_57 rfl ?_
  refine z_iload_n (pc := 59) dX11_bed_59 rfl ?_
  refine zq_icmp_ge (pc := 60) (tgt := 82) dX11_bed_60 rfl rfl rfl (fun h60 => ?_) (fun h60 => ?_)
  · skip
    refine z_aload_n (pc := 82) dX11_bed_82 rfl ?_
    refine z_iload_n (pc := 83) dX11_bed_83 rfl ?_
    refine z_iv1 (pc := 84) dX11_bed_84 kv_X11_96 rfl (by decide) (by decide) rfl rfl ?_
    refine c_X11_well ?_
    refine z_iret (pc := 87) dX11_bed_87 rfl ?_
    rw [show i = n by omega]; exact h
  · skip
    refine z_aload_n (pc := 63) dX11_bed_63 rfl ?_
    refine z_getR (pc := 64) (t := 38) dX11_bed_64 fk_X11_37 rfl (by decide) (by decide) (by decide) rfl ?_
    refine z_bipush (pc := 67) (v := 100) dX11_bed_67 (by decide) ?_
    refine z_iload_n (pc := 69) dX11_bed_69 rfl ?_
    refine z_imulT (pc := 70) (cx := 100) dX11_bed_70 (by decide) rfl (by omega) (by omega) (fun v70 e70 => ?_)
    refine z_iload (pc := 71) dX11_bed_71 rfl ?_
    refine z_iaddT (pc := 73) dX11_bed_73 rfl rfl (by omega) (by omega) (fun v73 e73 => ?_)
    refine z_lconst (pc := 74) (v := 0) dX11_bed_74 (by decide) ?_
    refine z_lastN (pc := 75) (100 * b + i) dX11_bed_75 rfl (by decide) (by omega) (by show _ < 800; omega) ?_
    refine z_iincT (pc := 76) dX11_bed_76 rfl rfl (by decide) (by decide) (by omega) (by omega) rfl rfl (fun v => by dsimp only [setI, setL, List.set]) (fun v76 e76 => ?_)
    refine z_goto (pc := 79) (tgt := 57) dX11_bed_79 rfl ?_
    rw [cR_step]
    exact ih (i + 1) v76 (by omega) (by omega) (by omega)

theorem c_X11_bed {l : Launch} {G : Gx} {d : Nat} {σ : Sg} {Q : Option Value → Sg → Prop} {a : Ab} {x1 x2 x3 : Int32} (hr : rM σ a) (hk : abOk a) (h : ∀ (r : Int32) (τ : Sg), r.toInt = (sBed a x1 x2 x3).1 → rM τ (sBed a x1 x2 x3).2 → eqC σ τ → Q (some (.int r)) τ) : Z l G M_X11_bed (d + 2) 0 [some (.ref 1), some (.int x1), some (.int x2), some (.int x3)] [] σ Q := by
  refine z_sub (L' := [some (.ref 1), some (.int x1), some (.int x2), some (.int x3), none]) ⟨rfl, rfl, rfl, rfl, trivial⟩ ?_
  refine z_iload_n (pc := 0) dX11_bed_0 rfl ?_
  refine z_is1 (pc := 1) dX11_bed_1 ks_X11_85 rfl rfl ?_
  refine c_X11_isBed (fun q1 => ?_) (fun q1 => ?_)
  · skip
    refine z_if_eq (pc := 4) (tgt := 25) dX11_bed_4 rfl (fun hc => absurd hc (by decide)) (fun _ => ?_)
    refine z_iload_n (pc := 7) dX11_bed_7 rfl ?_
    refine z_i2lT (pc := 8) dX11_bed_8 rfl (fun v8 e8 => ?_)
    refine z_lconst (pc := 9) (v := 0) dX11_bed_9 (by decide) ?_
    refine z_ldc2 (pc := 10) dX11_bed_10 kc_X11_89 ?_
    refine z_is3 (pc := 13) dX11_bed_13 ks_X11_81 rfl rfl ?_
    refine c_X11_in (cl := 0) (cm := 2) (by first | assumption | rfl) (by decide) (by decide) (fun q13 => ?_) (fun q13 => ?_)
    · skip
      refine z_if_eq (pc := 16) (tgt := 25) dX11_bed_16 rfl (fun hc => absurd hc (by decide)) (fun _ => ?_)
      refine z_iload_n (pc := 19) dX11_bed_19 rfl ?_
      refine z_bipush (pc := 20) (v := 100) dX11_bed_20 (by decide) ?_
      refine zq_icmp_le (pc := 22) (cy := 100) (tgt := 28) dX11_bed_22 rfl rfl (by decide) (fun h22 => ?_) (fun h22 => ?_)
      · skip
        refine z_iload_n (pc := 28) dX11_bed_28 rfl ?_
        refine zq_if_ge (pc := 29) (tgt := 38) dX11_bed_29 rfl rfl (fun h29 => ?_) (fun h29 => ?_)
        · skip
          obtain ⟨b, hb, hbe⟩ : ∃ b : Nat, b < 8 ∧ x1.toInt = (b : Int) := ⟨x1.toInt.toNat, by omega, by omega⟩
          obtain ⟨n, hn, hne⟩ : ∃ n : Nat, n ≤ 100 ∧ x3.toInt = (n : Int) := ⟨x3.toInt.toNat, by omega, by omega⟩
          refine z_aload_n (pc := 38) dX11_bed_38 rfl ?_
          refine z_getR (pc := 39) (t := 36) dX11_bed_39 fk_X11_31 rfl (by decide) (by decide) (by decide) rfl ?_
          refine z_iload_n (pc := 42) dX11_bed_42 rfl ?_
          refine z_iload_n (pc := 43) dX11_bed_43 rfl ?_
          refine z_iconst (pc := 44) (v := 1) dX11_bed_44 (by decide) ?_
          refine z_iaddT (pc := 45) (cy := 1) dX11_bed_45 rfl (by decide) (by omega) (by omega) (fun v45 e45 => ?_)
          refine z_iastN (pc := 46) b dX11_bed_46 rfl (by decide) hbe (by show _ < 8; omega) ?_
          refine z_aload_n (pc := 47) dX11_bed_47 rfl ?_
          refine z_getR (pc := 48) (t := 37) dX11_bed_48 fk_X11_34 rfl (by decide) (by decide) (by decide) rfl ?_
          refine z_iload_n (pc := 51) dX11_bed_51 rfl ?_
          refine z_iload_n (pc := 52) dX11_bed_52 rfl ?_
          refine z_iastN (pc := 53) b dX11_bed_53 rfl (by decide) hbe (by show _ < 8; omega) ?_
          refine z_iconst (pc := 54) (v := 0) dX11_bed_54 (by decide) ?_
          refine z_istore (pc := 55) dX11_bed_55 rfl rfl (by dsimp only [setI, setL, List.set]) ?_
          have hpost : Q (some (.int x3)) (uI (cR (uI (uI σ 36 b v45) 37 b x3) 38 (100 * b) n (fun _ => 0)) 1 16 0) := by
            have e := sBed_3 (a := a) (b := x1) (l := x2) (n := x3) (i := b) (by omega) (by omega) hb hbe
            have hv : v45 = x2 + 1 := Int32.toInt_inj.mp (by rw [e45, t32_add (y := 1)] <;> (have : (1 : Int32).toInt = 1 := rfl) <;> omega)
            refine h _ _ (by rw [e]) (by
              rw [e]
              refine rM_bed hr hk hb (fun k hk => ?_) (fun o h0 h1 h2 h3 h4 => ?_) rfl ?_ (fun _ => ⟨?_, fun j hj => ?_⟩) (fun c hc => ?_) (fun t ht => ?_) (uI_eq _ _ _ _)
              · simp (disch := omega) only [uI_row, uI_2, uI_nk, uI_no, uI_eq, uJ_1, uJ_row, cR_1, cR_row]
              · constructor <;> simp (disch := omega) only [uI_row, uI_2, uI_nk, uI_no, uI_eq, uJ_1, uJ_row, cR_1, cR_row]
              · simp (disch := omega) only [uI_row, uI_2, uI_nk, uI_no, uI_eq, uJ_1, uJ_row, cR_1, cR_row]
                exact hv
              · simp (disch := omega) only [uI_row, uI_2, uI_nk, uI_no, uI_eq, uJ_1, uJ_row, cR_1, cR_row]
              · rw [uI_2, cR_in (by omega) (by have : (j : Int) < x3.toInt := hj; omega)]
              · constructor <;> simp (disch := omega) only [uI_row, uI_2, uI_nk, uI_no, uI_eq, uJ_1, uJ_row, cR_1, cR_row]
              · rw [uI_2, cR_out (by omega)]; rfl) (eqC_uI (eqC_cR (eqC_uI (eqC_uI eqC_rf rfl) rfl) rfl) rfl)
          have := c_X11_bed_loop (l := l) (G := G) (d := d + 1) (x1 := x1) (x2 := x2) hb hbe hn hne hpost (n + 1) 0 0 (by decide) (by omega) (by omega)
          rw [cR_0] at this
          exact this
        · skip
          refine z_aload_n (pc := 32) dX11_bed_32 rfl ?_
          refine z_iconst (pc := 33) (v := 4) dX11_bed_33 (by decide) ?_
          refine z_iv1 (pc := 34) dX11_bed_34 kv_X11_92 rfl (by decide) (by decide) rfl rfl ?_
          refine c_X11_finds (by decide) (by decide) (fun r er => ?_)
          refine z_iret (pc := 37) dX11_bed_37 rfl ?_
          have e := sBed_2 (a := a) (b := x1) (l := x2) (n := x3) (by omega) (by omega)
          exact h r _ (by rw [e, er]; rfl) (by rw [e]; exact rM_stat hr) (eqC_uI eqC_rf rfl)
      · skip
        refine z_ldc (pc := 25) dX11_bed_25 kc_X11_91 ?_
        refine z_iret (pc := 27) dX11_bed_27 rfl ?_
        have e := sBed_1 (a := a) (b := x1) (l := x2) (n := x3) (by omega)
        exact h _ _ (by rw [e]; rfl) (by rw [e]; exact hr) eqC_rf
    · skip
      refine z_if_eq (pc := 16) (tgt := 25) dX11_bed_16 rfl (fun _ => ?_) (fun hc => absurd hc (by decide))
      refine z_ldc (pc := 25) dX11_bed_25 kc_X11_91 ?_
      refine z_iret (pc := 27) dX11_bed_27 rfl ?_
      have e := sBed_1 (a := a) (b := x1) (l := x2) (n := x3) (by omega)
      exact h _ _ (by rw [e]; rfl) (by rw [e]; exact hr) eqC_rf
  · skip
    refine z_if_eq (pc := 4) (tgt := 25) dX11_bed_4 rfl (fun _ => ?_) (fun hc => absurd hc (by decide))
    refine z_ldc (pc := 25) dX11_bed_25 kc_X11_91 ?_
    refine z_iret (pc := 27) dX11_bed_27 rfl ?_
    have e := sBed_1 (a := a) (b := x1) (l := x2) (n := x3) (by omega)
    exact h _ _ (by rw [e]; rfl) (by rw [e]; exact hr) eqC_rf

theorem c_X11_set_end {l : Launch} {G : Gx} {d : Nat} {σ : Sg} {Q : Option Value → Sg → Prop} {a : Ab} {x1 x2 : Int32} {x3 w : Int64} {b j : Nat} (hr : rM σ a) (hk : abOk a) (h : ∀ (r : Int64) (τ : Sg), r.toInt = (sSet a x1 x2 x3).1 → rM τ (sSet a x1 x2 x3).2 → eqC σ τ → Q (some (.long r)) τ) (hb : b < 8) (hbe : x1.toInt = (b : Int)) (hq : (a.2.1 b).1 ≠ 0) (hj : (j : Int) < (a.2.1 b).2.1.toInt) (hje : x2.toInt = (j : Int)) (hw : w = nrw ((a.2.1 b).1.toInt - 1) x3) : Z l G M_X11_set (d) 86 [some (.ref 1), some (.int x1), some (.int x2), some (.long x3), none, none, none] [.long w] σ Q := by
  have hBk2 := (hk.2.2.1 b hb).2.2 hq
  refine z_lstore (pc := 86) dX11_set_86 rfl rfl (by dsimp only [setI, setL, List.set]) ?_
  refine z_aload_n (pc := 88) dX11_set_88 rfl ?_
  refine z_getR (pc := 89) (t := 38) dX11_set_89 fk_X11_37 rfl (by decide) (by decide) (by decide) rfl ?_
  refine z_bipush (pc := 92) (v := 100) dX11_set_92 (by decide) ?_
  refine z_iload_n (pc := 94) dX11_set_94 rfl ?_
  refine z_imulT (pc := 95) (cx := 100) dX11_set_95 (by decide) rfl (by omega) (by omega) (fun v95 e95 => ?_)
  refine z_iload_n (pc := 96) dX11_set_96 rfl ?_
  refine z_iaddT (pc := 97) dX11_set_97 rfl rfl (by omega) (by omega) (fun v97 e97 => ?_)
  refine z_lload (pc := 98) dX11_set_98 rfl ?_
  refine z_lastN (pc := 100) (100 * b + j) dX11_set_100 rfl (by decide) (by omega) (by show _ < 800; omega) ?_
  refine z_aload_n (pc := 101) dX11_set_101 rfl ?_
  refine z_iconst (pc := 102) (v := 0) dX11_set_102 (by decide) ?_
  refine z_putI (pc := 103) dX11_set_103 fk_X11_75 rfl (by decide) (by decide) (by decide) ?_
  refine z_lload (pc := 106) dX11_set_106 rfl ?_
  refine z_lret (pc := 108) dX11_set_108 rfl ?_
  have e := sSet_4 (a := a) (b := x1) (i := x2) (v := x3) hb hbe hq hje hj
  refine h _ _ (by rw [e, hw]) (by
    rw [e]
    refine rM_bed hr hk hb (fun k hk => ?_) (fun o h0 h1 h2 h3 h4 => ?_) (by rw [uI_2]; exact uJ_row (by omega)) ?_ (fun _ => ⟨?_, fun i hi => ?_⟩) (fun c hc => ?_) (fun t ht => ?_) (uI_eq _ _ _ _)
    · simp (disch := omega) only [uI_row, uI_2, uI_nk, uI_no, uI_eq, uJ_1, uJ_row, cR_1, cR_row]
    · constructor <;> simp (disch := omega) only [uI_row, uI_2, uI_nk, uI_no, uI_eq, uJ_1, uJ_row, cR_1, cR_row]
    · simp (disch := omega) only [uI_row, uI_2, uI_nk, uI_no, uI_eq, uJ_1, uJ_row, cR_1, cR_row]
      exact (hr.2.1 b hb).1
    · simp (disch := omega) only [uI_row, uI_2, uI_nk, uI_no, uI_eq, uJ_1, uJ_row, cR_1, cR_row]
      exact ((hr.2.1 b hb).2 hq).1
    · rw [uI_2, upd_uJ, hw]
      show vp_updL _ _ _ _ = vp_updL _ _ _ _
      by_cases hij : i = j
      · subst hij; simp [vp_updL]
      · simp only [vp_updL, if_neg hij]
        rw [if_neg (by omega)]
        exact ((hr.2.1 b hb).2 hq).2 i hi
    · constructor <;> simp (disch := omega) only [uI_row, uI_2, uI_nk, uI_no, uI_eq, uJ_1, uJ_row, cR_1, cR_row]
    · rw [uI_2, upd_uJ]
      simp only [vp_updL]
      rw [if_neg (by omega)]) (eqC_uI (eqC_uJ eqC_rf rfl) rfl)

theorem c_X11_set {l : Launch} {G : Gx} {d : Nat} {σ : Sg} {Q : Option Value → Sg → Prop} {a : Ab} {x1 x2 : Int32} {x3 : Int64} (hr : rM σ a) (hk : abOk a) (h : ∀ (r : Int64) (τ : Sg), r.toInt = (sSet a x1 x2 x3).1 → rM τ (sSet a x1 x2 x3).2 → eqC σ τ → Q (some (.long r)) τ) : Z l G M_X11_set (d + 2) 0 [some (.ref 1), some (.int x1), some (.int x2), some (.long x3), none] [] σ Q := by
  refine z_sub (L' := [some (.ref 1), some (.int x1), some (.int x2), some (.long x3), none, none, none]) ⟨rfl, rfl, rfl, rfl, trivial⟩ ?_
  refine z_iload_n (pc := 0) dX11_set_0 rfl ?_
  refine z_is1 (pc := 1) dX11_set_1 ks_X11_85 rfl rfl ?_
  refine c_X11_isBed (fun q1 => ?_) (fun q1 => ?_)
  · skip
    refine z_if_ne (pc := 4) (tgt := 11) dX11_set_4 rfl (fun _ => ?_) (fun hc => absurd hc (by decide))
    obtain ⟨b, hb, hbe⟩ : ∃ b : Nat, b < 8 ∧ x1.toInt = (b : Int) := ⟨x1.toInt.toNat, by omega, by omega⟩
    refine z_aload_n (pc := 11) dX11_set_11 rfl ?_
    refine z_getR (pc := 12) (t := 36) dX11_set_12 fk_X11_31 rfl (by decide) (by decide) (by decide) rfl ?_
    refine z_iload_n (pc := 15) dX11_set_15 rfl ?_
    refine z_ialdN (pc := 16) b dX11_set_16 rfl (by decide) hbe (by show _ < 8; omega) ?_
    refine zq_if_ne (pc := 17) (tgt := 27) dX11_set_17 rfl rfl (fun h17 => ?_) (fun h17 => ?_)
    · skip
      have hq : (a.2.1 b).1 ≠ 0 := fun z => h17 (by rw [(hr.2.1 b hb).1, z]; rfl)
      obtain ⟨hB3, hB4⟩ := (hr.2.1 b hb).2 hq
      have hBk := hk.2.2.1 b hb
      have hBk2 := hBk.2.2 hq
      have e36 : (σ.1 36 b).toInt = (a.2.1 b).1.toInt := by rw [(hr.2.1 b hb).1]
      have e37b : (σ.1 37 b).toInt = (a.2.1 b).2.1.toInt := by rw [hB3]
      refine z_iload_n (pc := 27) dX11_set_27 rfl ?_
      refine z_i2lT (pc := 28) dX11_set_28 rfl (fun v28 e28 => ?_)
      refine z_lconst (pc := 29) (v := 0) dX11_set_29 (by decide) ?_
      refine z_aload_n (pc := 30) dX11_set_30 rfl ?_
      refine z_getR (pc := 31) (t := 37) dX11_set_31 fk_X11_34 rfl (by decide) (by decide) (by decide) rfl ?_
      refine z_iload_n (pc := 34) dX11_set_34 rfl ?_
      refine z_ialdN (pc := 35) b dX11_set_35 rfl (by decide) hbe (by show _ < 8; omega) ?_
      refine z_iconst (pc := 36) (v := 1) dX11_set_36 (by decide) ?_
      refine z_isubT (pc := 37) (cy := 1) dX11_set_37 rfl (by decide) (by omega) (by omega) (fun v37 e37 => ?_)
      refine z_i2lT (pc := 38) dX11_set_38 rfl (fun v38 e38 => ?_)
      refine z_is3 (pc := 39) dX11_set_39 ks_X11_81 rfl rfl ?_
      refine c_X11_in (cl := 0) (by first | assumption | rfl) (by decide) (by first | assumption | rfl) (fun q39 => ?_) (fun q39 => ?_)
      · skip
        refine z_if_ne (pc := 42) (tgt := 52) dX11_set_42 rfl (fun _ => ?_) (fun hc => absurd hc (by decide))
        obtain ⟨j, hj, hje⟩ : ∃ j : Nat, (j : Int) < (a.2.1 b).2.1.toInt ∧ x2.toInt = (j : Int) := ⟨x2.toInt.toNat, by omega, by omega⟩
        refine z_aload_n (pc := 52) dX11_set_52 rfl ?_
        refine z_getR (pc := 53) (t := 36) dX11_set_53 fk_X11_31 rfl (by decide) (by decide) (by decide) rfl ?_
        refine z_iload_n (pc := 56) dX11_set_56 rfl ?_
        refine z_ialdN (pc := 57) b dX11_set_57 rfl (by decide) hbe (by show _ < 8; omega) ?_
        refine z_iconst (pc := 58) (v := 1) dX11_set_58 (by decide) ?_
        refine zq_icmp_ne (pc := 59) (cy := 1) (tgt := 69) dX11_set_59 rfl rfl (by decide) (fun h59 => ?_) (fun h59 => ?_)
        · skip
          refine z_aload_n (pc := 69) dX11_set_69 rfl ?_
          refine z_getR (pc := 70) (t := 36) dX11_set_70 fk_X11_31 rfl (by decide) (by decide) (by decide) rfl ?_
          refine z_iload_n (pc := 73) dX11_set_73 rfl ?_
          refine z_ialdN (pc := 74) b dX11_set_74 rfl (by decide) hbe (by show _ < 8; omega) ?_
          refine z_iconst (pc := 75) (v := 2) dX11_set_75 (by decide) ?_
          refine zq_icmp_ne (pc := 76) (cy := 2) (tgt := 85) dX11_set_76 rfl rfl (by decide) (fun h76 => ?_) (fun h76 => ?_)
          · skip
            refine z_lload_n (pc := 85) dX11_set_85 rfl ?_
            exact c_X11_set_end hr hk h hb hbe hq hj hje (by unfold nrw; first | rw [if_pos (by omega)] | rw [if_neg (by omega), if_pos (by omega)] | rw [if_neg (by omega), if_neg (by omega)])
          · skip
            refine z_lload_n (pc := 79) dX11_set_79 rfl ?_
            refine z_l2i (pc := 80) dX11_set_80 ?_
            refine z_i2l (pc := 81) dX11_set_81 ?_
            refine z_goto (pc := 82) (tgt := 86) dX11_set_82 rfl ?_
            exact c_X11_set_end hr hk h hb hbe hq hj hje (by unfold nrw; first | rw [if_pos (by omega)] | rw [if_neg (by omega), if_pos (by omega)] | rw [if_neg (by omega), if_neg (by omega)])
        · skip
          refine z_lload_n (pc := 62) dX11_set_62 rfl ?_
          refine z_l2i (pc := 63) dX11_set_63 ?_
          refine z_i2s (pc := 64) dX11_set_64 ?_
          refine z_i2l (pc := 65) dX11_set_65 ?_
          refine z_goto (pc := 66) (tgt := 86) dX11_set_66 rfl ?_
          exact c_X11_set_end hr hk h hb hbe hq hj hje (by unfold nrw; first | rw [if_pos (by omega)] | rw [if_neg (by omega), if_pos (by omega)] | rw [if_neg (by omega), if_neg (by omega)])
      · skip
        refine z_if_ne (pc := 42) (tgt := 52) dX11_set_42 rfl (fun hc => absurd hc (by decide)) (fun _ => ?_)
        refine z_aload_n (pc := 45) dX11_set_45 rfl ?_
        refine z_iconst (pc := 46) (v := 2) dX11_set_46 (by decide) ?_
        refine z_iv1 (pc := 47) dX11_set_47 kv_X11_92 rfl (by decide) (by decide) rfl rfl ?_
        refine c_X11_finds (by decide) (by decide) (fun r er => ?_)
        refine z_i2l (pc := 50) dX11_set_50 ?_
        refine z_lret (pc := 51) dX11_set_51 rfl ?_
        have e := sSet_3 (a := a) (b := x1) (i := x2) (v := x3) hb hbe hq (by omega)
        exact h _ _ (by rw [e, Int32.toInt_toInt64, er]; rfl) (by rw [e]; exact rM_stat hr) (eqC_uI eqC_rf rfl)
    · skip
      refine z_aload_n (pc := 20) dX11_set_20 rfl ?_
      refine z_iconst (pc := 21) (v := 1) dX11_set_21 (by decide) ?_
      refine z_iv1 (pc := 22) dX11_set_22 kv_X11_92 rfl (by decide) (by decide) rfl rfl ?_
      refine c_X11_finds (by decide) (by decide) (fun r er => ?_)
      refine z_i2l (pc := 25) dX11_set_25 ?_
      refine z_lret (pc := 26) dX11_set_26 rfl ?_
      have e := sSet_2 (a := a) (b := x1) (i := x2) (v := x3) hb hbe ((hr.2.1 b hb).1.symm.trans (Int32.toInt_inj.mp (h17.trans rfl)))
      exact h _ _ (by rw [e, Int32.toInt_toInt64, er]; rfl) (by rw [e]; exact rM_stat hr) (eqC_uI eqC_rf rfl)
  · skip
    refine z_if_ne (pc := 4) (tgt := 11) dX11_set_4 rfl (fun hc => absurd hc (by decide)) (fun _ => ?_)
    refine z_ldc2 (pc := 7) dX11_set_7 kc_X11_99 ?_
    refine z_lret (pc := 10) dX11_set_10 rfl ?_
    have e := sSet_1 (a := a) (b := x1) (i := x2) (v := x3) (by omega)
    exact h _ _ (by rw [e]; rfl) (by rw [e]; exact hr) eqC_rf

theorem c_X11_drop {l : Launch} {G : Gx} {d : Nat} {σ : Sg} {Q : Option Value → Sg → Prop} {a : Ab} {x1 : Int32} (hr : rM σ a) (hk : abOk a) (h : ∀ (r : Int32) (τ : Sg), r.toInt = (sDrop a x1).1 → rM τ (sDrop a x1).2 → eqC σ τ → Q (some (.int r)) τ) : Z l G M_X11_drop (d + 2) 0 [some (.ref 1), some (.int x1)] [] σ Q := by
  refine z_sub (L' := [some (.ref 1), some (.int x1)]) ⟨rfl, rfl, trivial⟩ ?_
  refine z_iload_n (pc := 0) dX11_drop_0 rfl ?_
  refine z_is1 (pc := 1) dX11_drop_1 ks_X11_85 rfl rfl ?_
  refine c_X11_isBed (fun q1 => ?_) (fun q1 => ?_)
  · skip
    refine z_if_ne (pc := 4) (tgt := 10) dX11_drop_4 rfl (fun _ => ?_) (fun hc => absurd hc (by decide))
    obtain ⟨b, hb, hbe⟩ : ∃ b : Nat, b < 8 ∧ x1.toInt = (b : Int) := ⟨x1.toInt.toNat, by omega, by omega⟩
    refine z_aload_n (pc := 10) dX11_drop_10 rfl ?_
    refine z_getR (pc := 11) (t := 36) dX11_drop_11 fk_X11_31 rfl (by decide) (by decide) (by decide) rfl ?_
    refine z_iload_n (pc := 14) dX11_drop_14 rfl ?_
    refine z_ialdN (pc := 15) b dX11_drop_15 rfl (by decide) hbe (by show _ < 8; omega) ?_
    refine zq_if_ne (pc := 16) (tgt := 25) dX11_drop_16 rfl rfl (fun h16 => ?_) (fun h16 => ?_)
    · skip
      refine z_aload_n (pc := 25) dX11_drop_25 rfl ?_
      refine z_getR (pc := 26) (t := 36) dX11_drop_26 fk_X11_31 rfl (by decide) (by decide) (by decide) rfl ?_
      refine z_iload_n (pc := 29) dX11_drop_29 rfl ?_
      refine z_iconst (pc := 30) (v := 0) dX11_drop_30 (by decide) ?_
      refine z_iastN (pc := 31) b dX11_drop_31 rfl (by decide) hbe (by show _ < 8; omega) ?_
      refine z_aload_n (pc := 32) dX11_drop_32 rfl ?_
      refine z_aload_n (pc := 33) dX11_drop_33 rfl ?_
      refine z_getR (pc := 34) (t := 37) dX11_drop_34 fk_X11_34 rfl (by decide) (by decide) (by decide) rfl ?_
      refine z_iload_n (pc := 37) dX11_drop_37 rfl ?_
      refine z_ialdN (pc := 38) b dX11_drop_38 rfl (by decide) hbe (by show _ < 8; omega) ?_
      refine z_iv1 (pc := 39) dX11_drop_39 kv_X11_96 rfl (by decide) (by decide) rfl rfl ?_
      refine c_X11_well ?_
      refine z_iret (pc := 42) dX11_drop_42 rfl ?_
      have hq : (a.2.1 b).1 ≠ 0 := fun z => h16 (by rw [(hr.2.1 b hb).1, z]; rfl)
      have e := sDrop_3 (a := a) (b := x1) hb hbe hq
      refine h _ _ (by rw [e, uI_row (by omega), ((hr.2.1 b hb).2 hq).1]) (by
        rw [e]
        refine rM_bed hr hk hb (fun k hk => ?_) (fun o h0 h1 h2 h3 h4 => ?_) rfl ?_ (fun z => absurd rfl z) (fun c hc => ?_) (fun t ht => rfl) (uI_eq _ _ _ _)
        · simp (disch := omega) only [uI_row, uI_2, uI_nk, uI_no, uI_eq, uJ_1, uJ_row, cR_1, cR_row]
        · constructor <;> simp (disch := omega) only [uI_row, uI_2, uI_nk, uI_no, uI_eq, uJ_1, uJ_row, cR_1, cR_row]
        · simp (disch := omega) only [uI_row, uI_2, uI_nk, uI_no, uI_eq, uJ_1, uJ_row, cR_1, cR_row]
        · constructor <;> simp (disch := omega) only [uI_row, uI_2, uI_nk, uI_no, uI_eq, uJ_1, uJ_row, cR_1, cR_row]) (eqC_uI (eqC_uI eqC_rf rfl) rfl)
    · skip
      refine z_aload_n (pc := 19) dX11_drop_19 rfl ?_
      refine z_iconst (pc := 20) (v := 1) dX11_drop_20 (by decide) ?_
      refine z_iv1 (pc := 21) dX11_drop_21 kv_X11_92 rfl (by decide) (by decide) rfl rfl ?_
      refine c_X11_finds (by decide) (by decide) (fun r er => ?_)
      refine z_iret (pc := 24) dX11_drop_24 rfl ?_
      have e := sDrop_2 (a := a) (b := x1) hb hbe ((hr.2.1 b hb).1.symm.trans (Int32.toInt_inj.mp (h16.trans rfl)))
      exact h _ _ (by rw [e, er]; rfl) (by rw [e]; exact rM_stat hr) (eqC_uI eqC_rf rfl)
  · skip
    refine z_if_ne (pc := 4) (tgt := 10) dX11_drop_4 rfl (fun hc => absurd hc (by decide)) (fun _ => ?_)
    refine z_ldc (pc := 7) dX11_drop_7 kc_X11_91 ?_
    refine z_iret (pc := 9) dX11_drop_9 rfl ?_
    have e := sDrop_1 (a := a) (b := x1) (by omega)
    exact h _ _ (by rw [e]; rfl) (by rw [e]; exact hr) eqC_rf

theorem c_X11_copy_l2 {l : Launch} {G : Gx} {d : Nat} {σ : Sg} {Q : Option Value → Sg → Prop} {b c i j n : Nat} {x1 x2 x3 x4 x5 : Int32} (hb : b < 8) (hbe : x1.toInt = (b : Int)) (hc : c < 8) (hce : x3.toInt = (c : Int)) (hi : x2.toInt = (i : Int)) (hj : x4.toInt = (j : Int)) (hn : x5.toInt = (n : Int)) (hin : i + n ≤ 100) (hjn : j + n ≤ 100) {f : Nat → Int64} (hf : ∀ t, t < n → σ.2 39 t = f t) (h : Q (some (.int x5)) (uI (cR σ 38 (100 * c + j) n f) 1 16 0)) : ∀ (k t : Nat) (x : Int32), x.toInt = (t : Int) → t ≤ n → n - t < k → Z l G M_X11_copy (d + 1) 157 [some (.ref 1), some (.int x1), some (.int x2), some (.int x3), some (.int x4), some (.int x5), some (.int x)] [] (cR σ 38 (100 * c + j) t f) Q := by
  intro k
  induction k with
  | zero => intro t x hx ht hk; omega
  | succ k ih =>
  intro t x hx ht hk
  refine z_iload (pc := 157) dX11_copy_157 rfl ?_
  refine z_iload (pc := 159) dX11_copy_159 rfl ?_
  refine zq_icmp_ge (pc := 161) (tgt := 192) dX11_copy_161 rfl rfl rfl (fun h161 => ?_) (fun h161 => ?_)
  · skip
    refine z_aload_n (pc := 192) dX11_copy_192 rfl ?_
    refine z_iload (pc := 193) dX11_copy_193 rfl ?_
    refine z_iv1 (pc := 195) dX11_copy_195 kv_X11_96 rfl (by decide) (by decide) rfl rfl ?_
    refine c_X11_well ?_
    refine z_iret (pc := 198) dX11_copy_198 rfl ?_
    rw [show t = n by omega]; exact h
  · skip
    refine z_aload_n (pc := 164) dX11_copy_164 rfl ?_
    refine z_getR (pc := 165) (t := 38) dX11_copy_165 fk_X11_37 rfl (by decide) (by decide) (by decide) rfl ?_
    refine z_bipush (pc := 168) (v := 100) dX11_copy_168 (by decide) ?_
    refine z_iload_n (pc := 170) dX11_copy_170 rfl ?_
    refine z_imulT (pc := 171) (cx := 100) dX11_copy_171 (by decide) rfl (by omega) (by omega) (fun v171 e171 => ?_)
    refine z_iload (pc := 172) dX11_copy_172 rfl ?_
    refine z_iaddT (pc := 174) dX11_copy_174 rfl rfl (by omega) (by omega) (fun v174 e174 => ?_)
    refine z_iload (pc := 175) dX11_copy_175 rfl ?_
    refine z_iaddT (pc := 177) dX11_copy_177 rfl rfl (by omega) (by omega) (fun v177 e177 => ?_)
    refine z_aload_n (pc := 178) dX11_copy_178 rfl ?_
    refine z_getR (pc := 179) (t := 39) dX11_copy_179 fk_X11_41 rfl (by decide) (by decide) (by decide) rfl ?_
    refine z_iload (pc := 182) dX11_copy_182 rfl ?_
    refine z_laldN (pc := 184) t dX11_copy_184 rfl (by decide) hx (by show _ < 100; omega) ?_
    refine z_lastN (pc := 185) (100 * c + j + t) dX11_copy_185 rfl (by decide) (by omega) (by show _ < 800; omega) ?_
    refine z_iincT (pc := 186) dX11_copy_186 rfl rfl (by decide) (by decide) (by omega) (by omega) rfl rfl (fun v => by dsimp only [setI, setL, List.set]) (fun v186 e186 => ?_)
    refine z_goto (pc := 189) (tgt := 157) dX11_copy_189 rfl ?_
    rw [cR_row (by omega), hf t (by omega), cR_step]
    exact ih (t + 1) v186 (by omega) (by omega) (by omega)

theorem c_X11_copy_l1 {l : Launch} {G : Gx} {d : Nat} {σ : Sg} {Q : Option Value → Sg → Prop} {b c i j n : Nat} {x1 x2 x3 x4 x5 : Int32} (hb : b < 8) (hbe : x1.toInt = (b : Int)) (hc : c < 8) (hce : x3.toInt = (c : Int)) (hi : x2.toInt = (i : Int)) (hj : x4.toInt = (j : Int)) (hn : x5.toInt = (n : Int)) (hin : i + n ≤ 100) (hjn : j + n ≤ 100) (h : Q (some (.int x5)) (uI (cR (cR σ 39 0 n (fun t => σ.2 38 (100 * b + i + t))) 38 (100 * c + j) n (fun t => σ.2 38 (100 * b + i + t))) 1 16 0)) : ∀ (k t : Nat) (x : Int32), x.toInt = (t : Int) → t ≤ n → n - t < k → Z l G M_X11_copy (d + 1) 120 [some (.ref 1), some (.int x1), some (.int x2), some (.int x3), some (.int x4), some (.int x5), some (.int x)] [] (cR σ 39 0 t (fun t => σ.2 38 (100 * b + i + t))) Q := by
  intro k
  induction k with
  | zero => intro t x hx ht hk; omega
  | succ k ih =>
  intro t x hx ht hk
  refine z_iload (pc := 120) dX11_copy_120 rfl ?_
  refine z_iload (pc := 122) dX11_copy_122 rfl ?_
  refine zq_icmp_ge (pc := 124) (tgt := 154) dX11_copy_124 rfl rfl rfl (fun h124 => ?_) (fun h124 => ?_)
  · skip
    refine z_iconst (pc := 154) (v := 0) dX11_copy_154 (by decide) ?_
    refine z_istore (pc := 155) dX11_copy_155 rfl rfl (by dsimp only [setI, setL, List.set]) ?_
    have ht9 : t = n := by omega
    subst ht9
    have := c_X11_copy_l2 (l := l) (G := G) (d := d) hb hbe hc hce hi hj hn hin hjn (fun t ht => by rw [cR_in (by omega) (by omega)]; rfl) h (t + 1) 0 0 (by decide) (by omega) (by omega)
    rw [cR_0] at this
    exact this
  · skip
    refine z_aload_n (pc := 127) dX11_copy_127 rfl ?_
    refine z_getR (pc := 128) (t := 39) dX11_copy_128 fk_X11_41 rfl (by decide) (by decide) (by decide) rfl ?_
    refine z_iload (pc := 131) dX11_copy_131 rfl ?_
    refine z_aload_n (pc := 133) dX11_copy_133 rfl ?_
    refine z_getR (pc := 134) (t := 38) dX11_copy_134 fk_X11_37 rfl (by decide) (by decide) (by decide) rfl ?_
    refine z_bipush (pc := 137) (v := 100) dX11_copy_137 (by decide) ?_
    refine z_iload_n (pc := 139) dX11_copy_139 rfl ?_
    refine z_imulT (pc := 140) (cx := 100) dX11_copy_140 (by decide) rfl (by omega) (by omega) (fun v140 e140 => ?_)
    refine z_iload_n (pc := 141) dX11_copy_141 rfl ?_
    refine z_iaddT (pc := 142) dX11_copy_142 rfl rfl (by omega) (by omega) (fun v142 e142 => ?_)
    refine z_iload (pc := 143) dX11_copy_143 rfl ?_
    refine z_iaddT (pc := 145) dX11_copy_145 rfl rfl (by omega) (by omega) (fun v145 e145 => ?_)
    refine z_laldN (pc := 146) (100 * b + i + t) dX11_copy_146 rfl (by decide) (by omega) (by show _ < 800; omega) ?_
    refine z_lastN (pc := 147) t dX11_copy_147 rfl (by decide) hx (by show _ < 100; omega) ?_
    refine z_iincT (pc := 148) dX11_copy_148 rfl rfl (by decide) (by decide) (by omega) (by omega) rfl rfl (fun v => by dsimp only [setI, setL, List.set]) (fun v148 e148 => ?_)
    refine z_goto (pc := 151) (tgt := 120) dX11_copy_151 rfl ?_
    rw [cR_row (by omega), show uJ (cR σ 39 0 t (fun t => σ.2 38 (100 * b + i + t))) 39 t (σ.2 38 (100 * b + i + t)) = cR σ 39 0 (t + 1) (fun t => σ.2 38 (100 * b + i + t)) by rw [← cR_step, Nat.zero_add]]
    exact ih (t + 1) v148 (by omega) (by omega) (by omega)

theorem c_X11_copy {l : Launch} {G : Gx} {d : Nat} {σ : Sg} {Q : Option Value → Sg → Prop} {a : Ab} {x1 x2 x3 x4 x5 : Int32} (hr : rM σ a) (hk : abOk a) (h : ∀ (r : Int32) (τ : Sg), r.toInt = (sCopy a x1 x2 x3 x4 x5).1 → rM τ (sCopy a x1 x2 x3 x4 x5).2 → eqC σ τ → Q (some (.int r)) τ) : Z l G M_X11_copy (d + 2) 0 [some (.ref 1), some (.int x1), some (.int x2), some (.int x3), some (.int x4), some (.int x5)] [] σ Q := by
  refine z_sub (L' := [some (.ref 1), some (.int x1), some (.int x2), some (.int x3), some (.int x4), some (.int x5), none]) ⟨rfl, rfl, rfl, rfl, rfl, rfl, trivial⟩ ?_
  refine z_iload_n (pc := 0) dX11_copy_0 rfl ?_
  refine z_is1 (pc := 1) dX11_copy_1 ks_X11_85 rfl rfl ?_
  refine c_X11_isBed (fun q1 => ?_) (fun q1 => ?_)
  · skip
    refine z_if_eq (pc := 4) (tgt := 14) dX11_copy_4 rfl (fun hc => absurd hc (by decide)) (fun _ => ?_)
    refine z_iload_n (pc := 7) dX11_copy_7 rfl ?_
    refine z_is1 (pc := 8) dX11_copy_8 ks_X11_85 rfl rfl ?_
    refine c_X11_isBed (fun q8 => ?_) (fun q8 => ?_)
    · skip
      refine z_if_ne (pc := 11) (tgt := 17) dX11_copy_11 rfl (fun _ => ?_) (fun hc => absurd hc (by decide))
      obtain ⟨b, hb, hbe⟩ : ∃ b : Nat, b < 8 ∧ x1.toInt = (b : Int) := ⟨x1.toInt.toNat, by omega, by omega⟩
      obtain ⟨c, hc, hce⟩ : ∃ c : Nat, c < 8 ∧ x3.toInt = (c : Int) := ⟨x3.toInt.toNat, by omega, by omega⟩
      refine z_aload_n (pc := 17) dX11_copy_17 rfl ?_
      refine z_getR (pc := 18) (t := 36) dX11_copy_18 fk_X11_31 rfl (by decide) (by decide) (by decide) rfl ?_
      refine z_iload_n (pc := 21) dX11_copy_21 rfl ?_
      refine z_ialdN (pc := 22) b dX11_copy_22 rfl (by decide) hbe (by show _ < 8; omega) ?_
      refine zq_if_eq (pc := 23) (tgt := 35) dX11_copy_23 rfl rfl (fun h23 => ?_) (fun h23 => ?_)
      · skip
        refine z_aload_n (pc := 35) dX11_copy_35 rfl ?_
        refine z_iconst (pc := 36) (v := 1) dX11_copy_36 (by decide) ?_
        refine z_iv1 (pc := 37) dX11_copy_37 kv_X11_92 rfl (by decide) (by decide) rfl rfl ?_
        refine c_X11_finds (by decide) (by decide) (fun r er => ?_)
        refine z_iret (pc := 40) dX11_copy_40 rfl ?_
        first | (have e := sCopy_2 (a := a) (p := x1) (i := x2) (q := x3) (j := x4) (n := x5) hb hc hbe hce (Or.inl ((hr.2.1 b hb).1.symm.trans (Int32.toInt_inj.mp (h23.trans rfl)))); exact h _ _ (by rw [e, er]; rfl) (by rw [e]; exact rM_stat hr) (eqC_uI eqC_rf rfl)) | (have e := sCopy_2 (a := a) (p := x1) (i := x2) (q := x3) (j := x4) (n := x5) hb hc hbe hce (Or.inr ((hr.2.1 c hc).1.symm.trans (Int32.toInt_inj.mp (h32.trans rfl)))); exact h _ _ (by rw [e, er]; rfl) (by rw [e]; exact rM_stat hr) (eqC_uI eqC_rf rfl))
      · skip
        refine z_aload_n (pc := 26) dX11_copy_26 rfl ?_
        refine z_getR (pc := 27) (t := 36) dX11_copy_27 fk_X11_31 rfl (by decide) (by decide) (by decide) rfl ?_
        refine z_iload_n (pc := 30) dX11_copy_30 rfl ?_
        refine z_ialdN (pc := 31) c dX11_copy_31 rfl (by decide) hce (by show _ < 8; omega) ?_
        refine zq_if_ne (pc := 32) (tgt := 41) dX11_copy_32 rfl rfl (fun h32 => ?_) (fun h32 => ?_)
        · skip
          have e36b : (σ.1 36 b).toInt = (a.2.1 b).1.toInt := by rw [(hr.2.1 b hb).1]
          have e36c : (σ.1 36 c).toInt = (a.2.1 c).1.toInt := by rw [(hr.2.1 c hc).1]
          have hq : (a.2.1 b).1 ≠ 0 := fun z => h23 (by rw [e36b, z]; rfl)
          have hq2 : (a.2.1 c).1 ≠ 0 := fun z => h32 (by rw [e36c, z]; rfl)
          obtain ⟨hB3, hB4⟩ := (hr.2.1 b hb).2 hq
          obtain ⟨hC3, hC4⟩ := (hr.2.1 c hc).2 hq2
          have hBk2 := (hk.2.2.1 b hb).2.2 hq
          have hCk2 := (hk.2.2.1 c hc).2.2 hq2
          have hno : ¬ ((a.2.1 b).1 = 0 ∨ (a.2.1 c).1 = 0) := fun z => z.elim hq hq2
          have e3 : (σ.1 37 b).toInt = (a.2.1 b).2.1.toInt := by rw [hB3]
          have e4 : (σ.1 37 c).toInt = (a.2.1 c).2.1.toInt := by rw [hC3]
          refine z_aload_n (pc := 41) dX11_copy_41 rfl ?_
          refine z_getR (pc := 42) (t := 36) dX11_copy_42 fk_X11_31 rfl (by decide) (by decide) (by decide) rfl ?_
          refine z_iload_n (pc := 45) dX11_copy_45 rfl ?_
          refine z_ialdN (pc := 46) b dX11_copy_46 rfl (by decide) hbe (by show _ < 8; omega) ?_
          refine z_aload_n (pc := 47) dX11_copy_47 rfl ?_
          refine z_getR (pc := 48) (t := 36) dX11_copy_48 fk_X11_31 rfl (by decide) (by decide) (by decide) rfl ?_
          refine z_iload_n (pc := 51) dX11_copy_51 rfl ?_
          refine z_ialdN (pc := 52) c dX11_copy_52 rfl (by decide) hce (by show _ < 8; omega) ?_
          refine zq_icmp_eq (pc := 53) (tgt := 62) dX11_copy_53 rfl rfl rfl (fun h53 => ?_) (fun h53 => ?_)
          · skip
            refine z_iload_n (pc := 62) dX11_copy_62 rfl ?_
            refine zq_if_lt (pc := 63) (tgt := 111) dX11_copy_63 rfl rfl (fun h63 => ?_) (fun h63 => ?_)
            · skip
              refine z_aload_n (pc := 111) dX11_copy_111 rfl ?_
              refine z_iconst (pc := 112) (v := 2) dX11_copy_112 (by decide) ?_
              refine z_iv1 (pc := 113) dX11_copy_113 kv_X11_92 rfl (by decide) (by decide) rfl rfl ?_
              refine c_X11_finds (by decide) (by decide) (fun r er => ?_)
              refine z_iret (pc := 116) dX11_copy_116 rfl ?_
              have hln : (a.2.1 b).1 = (a.2.1 c).1 := Int32.toInt_inj.mp (by omega)
              have e := sCopy_4 (a := a) (p := x1) (i := x2) (q := x3) (j := x4) (n := x5) hb hc hbe hce hno hln (by omega)
              exact h _ _ (by rw [e, er]; rfl) (by rw [e]; exact rM_stat hr) (eqC_uI eqC_rf rfl)
            · skip
              refine z_iload (pc := 66) dX11_copy_66 rfl ?_
              refine zq_if_lt (pc := 68) (tgt := 111) dX11_copy_68 rfl rfl (fun h68 => ?_) (fun h68 => ?_)
              · skip
                refine z_aload_n (pc := 111) dX11_copy_111 rfl ?_
                refine z_iconst (pc := 112) (v := 2) dX11_copy_112 (by decide) ?_
                refine z_iv1 (pc := 113) dX11_copy_113 kv_X11_92 rfl (by decide) (by decide) rfl rfl ?_
                refine c_X11_finds (by decide) (by decide) (fun r er => ?_)
                refine z_iret (pc := 116) dX11_copy_116 rfl ?_
                have hln : (a.2.1 b).1 = (a.2.1 c).1 := Int32.toInt_inj.mp (by omega)
                have e := sCopy_4 (a := a) (p := x1) (i := x2) (q := x3) (j := x4) (n := x5) hb hc hbe hce hno hln (by omega)
                exact h _ _ (by rw [e, er]; rfl) (by rw [e]; exact rM_stat hr) (eqC_uI eqC_rf rfl)
              · skip
                refine z_iload (pc := 71) dX11_copy_71 rfl ?_
                refine zq_if_lt (pc := 73) (tgt := 111) dX11_copy_73 rfl rfl (fun h73 => ?_) (fun h73 => ?_)
                · skip
                  refine z_aload_n (pc := 111) dX11_copy_111 rfl ?_
                  refine z_iconst (pc := 112) (v := 2) dX11_copy_112 (by decide) ?_
                  refine z_iv1 (pc := 113) dX11_copy_113 kv_X11_92 rfl (by decide) (by decide) rfl rfl ?_
                  refine c_X11_finds (by decide) (by decide) (fun r er => ?_)
                  refine z_iret (pc := 116) dX11_copy_116 rfl ?_
                  have hln : (a.2.1 b).1 = (a.2.1 c).1 := Int32.toInt_inj.mp (by omega)
                  have e := sCopy_4 (a := a) (p := x1) (i := x2) (q := x3) (j := x4) (n := x5) hb hc hbe hce hno hln (by omega)
                  exact h _ _ (by rw [e, er]; rfl) (by rw [e]; exact rM_stat hr) (eqC_uI eqC_rf rfl)
                · skip
                  have hx2 := x2.toInt_lt
                  have hx4 := x4.toInt_lt
                  have hx5 := x5.toInt_lt
                  refine z_iload_n (pc := 76) dX11_copy_76 rfl ?_
                  refine z_i2lT (pc := 77) dX11_copy_77 rfl (fun v77 e77 => ?_)
                  refine z_iload (pc := 78) dX11_copy_78 rfl ?_
                  refine z_i2lT (pc := 80) dX11_copy_80 rfl (fun v80 e80 => ?_)
                  refine z_laddT (pc := 81) dX11_copy_81 rfl rfl (by omega) (by omega) (fun v81 e81 => ?_)
                  refine z_aload_n (pc := 82) dX11_copy_82 rfl ?_
                  refine z_getR (pc := 83) (t := 37) dX11_copy_83 fk_X11_34 rfl (by decide) (by decide) (by decide) rfl ?_
                  refine z_iload_n (pc := 86) dX11_copy_86 rfl ?_
                  refine z_ialdN (pc := 87) b dX11_copy_87 rfl (by decide) hbe (by show _ < 8; omega) ?_
                  refine z_i2lT (pc := 88) dX11_copy_88 rfl (fun v88 e88 => ?_)
                  refine zq_lc_gt (pc := 89) (tgt := 111) dX11_copy_89 dX11_copy_90 rfl rfl rfl (fun h89 => ?_) (fun h89 => ?_)
                  · skip
                    refine z_aload_n (pc := 111) dX11_copy_111 rfl ?_
                    refine z_iconst (pc := 112) (v := 2) dX11_copy_112 (by decide) ?_
                    refine z_iv1 (pc := 113) dX11_copy_113 kv_X11_92 rfl (by decide) (by decide) rfl rfl ?_
                    refine c_X11_finds (by decide) (by decide) (fun r er => ?_)
                    refine z_iret (pc := 116) dX11_copy_116 rfl ?_
                    have hln : (a.2.1 b).1 = (a.2.1 c).1 := Int32.toInt_inj.mp (by omega)
                    have e := sCopy_4 (a := a) (p := x1) (i := x2) (q := x3) (j := x4) (n := x5) hb hc hbe hce hno hln (by omega)
                    exact h _ _ (by rw [e, er]; rfl) (by rw [e]; exact rM_stat hr) (eqC_uI eqC_rf rfl)
                  · skip
                    refine z_iload (pc := 93) dX11_copy_93 rfl ?_
                    refine z_i2lT (pc := 95) dX11_copy_95 rfl (fun v95 e95 => ?_)
                    refine z_iload (pc := 96) dX11_copy_96 rfl ?_
                    refine z_i2lT (pc := 98) dX11_copy_98 rfl (fun v98 e98 => ?_)
                    refine z_laddT (pc := 99) dX11_copy_99 rfl rfl (by omega) (by omega) (fun v99 e99 => ?_)
                    refine z_aload_n (pc := 100) dX11_copy_100 rfl ?_
                    refine z_getR (pc := 101) (t := 37) dX11_copy_101 fk_X11_34 rfl (by decide) (by decide) (by decide) rfl ?_
                    refine z_iload_n (pc := 104) dX11_copy_104 rfl ?_
                    refine z_ialdN (pc := 105) c dX11_copy_105 rfl (by decide) hce (by show _ < 8; omega) ?_
                    refine z_i2lT (pc := 106) dX11_copy_106 rfl (fun v106 e106 => ?_)
                    refine zq_lc_le (pc := 107) (tgt := 117) dX11_copy_107 dX11_copy_108 rfl rfl rfl (fun h107 => ?_) (fun h107 => ?_)
                    · skip
                      refine z_iconst (pc := 117) (v := 0) dX11_copy_117 (by decide) ?_
                      refine z_istore (pc := 118) dX11_copy_118 rfl rfl (by dsimp only [setI, setL, List.set]) ?_
                      obtain ⟨i, hi⟩ : ∃ i : Nat, x2.toInt = (i : Int) := ⟨x2.toInt.toNat, by omega⟩
                      obtain ⟨j, hj⟩ : ∃ j : Nat, x4.toInt = (j : Int) := ⟨x4.toInt.toNat, by omega⟩
                      obtain ⟨n, hn⟩ : ∃ n : Nat, x5.toInt = (n : Int) := ⟨x5.toInt.toNat, by omega⟩
                      have hln : (a.2.1 b).1 = (a.2.1 c).1 := Int32.toInt_inj.mp (by omega)
                      have hpost : Q (some (.int x5)) (uI (cR (cR σ 39 0 n (fun t => σ.2 38 (100 * b + i + t))) 38 (100 * c + j) n (fun t => σ.2 38 (100 * b + i + t))) 1 16 0) := by
                        have e := sCopy_5 (a := a) (p := x1) (i := x2) (q := x3) (j := x4) (n := x5) hb hc hbe hce hno hln hi hj hn (by omega) (by omega)
                        refine h _ _ (by rw [e]) (by
                          rw [e]
                          refine rM_bed hr hk hc (fun k hk => ?_) (fun o h0 h1 h2 h3 h4 => ?_) ?_ ?_ (fun _ => ⟨?_, fun t ht => ?_⟩) (fun z hz => ?_) (fun t ht => ?_) (uI_eq _ _ _ _)
                          · simp (disch := omega) only [uI_row, uI_2, uI_nk, uI_no, uI_eq, uJ_1, uJ_row, cR_1, cR_row]
                          · constructor <;> simp (disch := omega) only [uI_row, uI_2, uI_nk, uI_no, uI_eq, uJ_1, uJ_row, cR_1, cR_row]
                          · simp (disch := omega) only [uI_row, uI_2, uI_nk, uI_no, uI_eq, uJ_1, uJ_row, cR_1, cR_row]
                          · simp (disch := omega) only [uI_row, uI_2, uI_nk, uI_no, uI_eq, uJ_1, uJ_row, cR_1, cR_row]
                            exact (hr.2.1 c hc).1
                          · simp (disch := omega) only [uI_row, uI_2, uI_nk, uI_no, uI_eq, uJ_1, uJ_row, cR_1, cR_row]
                            exact hC3
                          · have ht' : (t : Int) < (a.2.1 c).2.1.toInt := ht
                            show _ = va_cpy _ _ i j n t
                            unfold va_cpy
                            by_cases hc9 : j ≤ t ∧ t < j + n
                            · rw [if_pos hc9, uI_2, cR_in (by omega) (by omega), show 100 * b + i + (100 * c + t - (100 * c + j)) = 100 * b + (i + (t - j)) by omega]; exact hB4 _ (by omega)
                            · rw [if_neg hc9, uI_2, cR_out (by omega), cR_row (by omega)]; exact hC4 t ht'
                          · constructor <;> simp (disch := omega) only [uI_row, uI_2, uI_nk, uI_no, uI_eq, uJ_1, uJ_row, cR_1, cR_row]
                          · rw [uI_2, cR_out (by omega), cR_row (by omega)]) (eqC_uI (eqC_cR (eqC_cR eqC_rf rfl) rfl) rfl)
                      have := c_X11_copy_l1 (l := l) (G := G) (d := d + 1) hb hbe hc hce hi hj hn (by omega) (by omega) hpost (n + 1) 0 0 (by decide) (by omega) (by omega)
                      rw [cR_0] at this
                      exact this
                    · skip
                      refine z_aload_n (pc := 111) dX11_copy_111 rfl ?_
                      refine z_iconst (pc := 112) (v := 2) dX11_copy_112 (by decide) ?_
                      refine z_iv1 (pc := 113) dX11_copy_113 kv_X11_92 rfl (by decide) (by decide) rfl rfl ?_
                      refine c_X11_finds (by decide) (by decide) (fun r er => ?_)
                      refine z_iret (pc := 116) dX11_copy_116 rfl ?_
                      have hln : (a.2.1 b).1 = (a.2.1 c).1 := Int32.toInt_inj.mp (by omega)
                      have e := sCopy_4 (a := a) (p := x1) (i := x2) (q := x3) (j := x4) (n := x5) hb hc hbe hce hno hln (by omega)
                      exact h _ _ (by rw [e, er]; rfl) (by rw [e]; exact rM_stat hr) (eqC_uI eqC_rf rfl)
          · skip
            refine z_aload_n (pc := 56) dX11_copy_56 rfl ?_
            refine z_iconst (pc := 57) (v := 5) dX11_copy_57 (by decide) ?_
            refine z_iv1 (pc := 58) dX11_copy_58 kv_X11_92 rfl (by decide) (by decide) rfl rfl ?_
            refine c_X11_finds (by decide) (by decide) (fun r er => ?_)
            refine z_iret (pc := 61) dX11_copy_61 rfl ?_
            have e := sCopy_3 (a := a) (p := x1) (i := x2) (q := x3) (j := x4) (n := x5) hb hc hbe hce hno (fun z => by rw [z] at e36b; omega)
            exact h _ _ (by rw [e, er]; rfl) (by rw [e]; exact rM_stat hr) (eqC_uI eqC_rf rfl)
        · skip
          refine z_aload_n (pc := 35) dX11_copy_35 rfl ?_
          refine z_iconst (pc := 36) (v := 1) dX11_copy_36 (by decide) ?_
          refine z_iv1 (pc := 37) dX11_copy_37 kv_X11_92 rfl (by decide) (by decide) rfl rfl ?_
          refine c_X11_finds (by decide) (by decide) (fun r er => ?_)
          refine z_iret (pc := 40) dX11_copy_40 rfl ?_
          first | (have e := sCopy_2 (a := a) (p := x1) (i := x2) (q := x3) (j := x4) (n := x5) hb hc hbe hce (Or.inl ((hr.2.1 b hb).1.symm.trans (Int32.toInt_inj.mp (h23.trans rfl)))); exact h _ _ (by rw [e, er]; rfl) (by rw [e]; exact rM_stat hr) (eqC_uI eqC_rf rfl)) | (have e := sCopy_2 (a := a) (p := x1) (i := x2) (q := x3) (j := x4) (n := x5) hb hc hbe hce (Or.inr ((hr.2.1 c hc).1.symm.trans (Int32.toInt_inj.mp (h32.trans rfl)))); exact h _ _ (by rw [e, er]; rfl) (by rw [e]; exact rM_stat hr) (eqC_uI eqC_rf rfl))
    · skip
      refine z_if_ne (pc := 11) (tgt := 17) dX11_copy_11 rfl (fun hc => absurd hc (by decide)) (fun _ => ?_)
      refine z_ldc (pc := 14) dX11_copy_14 kc_X11_91 ?_
      refine z_iret (pc := 16) dX11_copy_16 rfl ?_
      have e := sCopy_1 (a := a) (p := x1) (i := x2) (q := x3) (j := x4) (n := x5) (by omega)
      exact h _ _ (by rw [e]; rfl) (by rw [e]; exact hr) eqC_rf
  · skip
    refine z_if_eq (pc := 4) (tgt := 14) dX11_copy_4 rfl (fun _ => ?_) (fun hc => absurd hc (by decide))
    refine z_ldc (pc := 14) dX11_copy_14 kc_X11_91 ?_
    refine z_iret (pc := 16) dX11_copy_16 rfl ?_
    have e := sCopy_1 (a := a) (p := x1) (i := x2) (q := x3) (j := x4) (n := x5) (by omega)
    exact h _ _ (by rw [e]; rfl) (by rw [e]; exact hr) eqC_rf
