/-! divisors -/
theorem gcd_step (a b : Nat) : Nat.gcd b (a % b) = Nat.gcd a b := by
  rw [Nat.gcd_comm a b, Nat.gcd_rec b a, Nat.gcd_comm]
theorem mod_half {a b : Nat} (h : b ≤ a) (hb : 0 < b) : 2 * (a % b) ≤ a := by
  have h1 := Nat.mod_lt a hb
  have h2 := Nat.div_add_mod a b
  have h3 : 1 ≤ a / b := (Nat.one_le_div_iff hb).mpr h
  have h4 : b ≤ b * (a / b) := Nat.le_mul_of_pos_right b h3
  omega
theorem prod_half {a b k : Nat} (h : b ≤ a) (hb : 0 < b) (hk : a * b < 2 ^ (k + 1)) : b * (a % b) < 2 ^ k := by
  have h1 := Nat.mul_le_mul_left b (mod_half h hb)
  rw [Nat.pow_succ] at hk
  have e : b * (2 * (a % b)) = 2 * (b * (a % b)) := by rw [Nat.mul_left_comm]
  have e2 : b * a = a * b := Nat.mul_comm _ _
  omega

theorem c_cd_loop {l : Launch} {G : Gx} {d : Nat} {σ : Sg} {Q : Option Value → Sg → Prop} {x y : Int64} {g : Nat} (h : ∀ r : Int64, r.toInt = (g : Int) → Q (some (.long r)) σ) : ∀ (k a b t : Nat) (va vb : Int64) (c : Int32), va.toInt = (a : Int) → vb.toInt = (b : Int) → c.toInt = (t : Int) → b ≤ a → a * b < 2 ^ k → t + k < 100 → Nat.gcd a b = g → Z l G M_X10_commonDivisor d 31 [some (.long x), none, some (.long y), none, some (.long va), none, some (.long vb), none, some (.int c), none, none] [] σ Q := by
  intro k
  induction k with
  | zero =>
    intro a b t va vb c ha hb hc hle hk ht hg
    have hb0 : b = 0 := by
      rcases Nat.eq_zero_or_pos b with h0 | h0
      · exact h0
      · have := Nat.mul_pos (Nat.lt_of_lt_of_le h0 hle) h0
        simp at hk
        omega
    refine z_iload (pc := 31) dX10_commonDivisor_31 rfl ?_
    refine z_bipush (pc := 33) (v := 100) dX10_commonDivisor_33 (by decide) ?_
    refine zq_icmp_ge (pc := 35) (cy := 100) (tgt := 66) dX10_commonDivisor_35 rfl rfl (by decide) (fun h35 => ?_) (fun h35 => ?_)
    · skip
      refine z_lload (pc := 66) dX10_commonDivisor_66 rfl ?_
      refine z_lret (pc := 68) dX10_commonDivisor_68 rfl ?_
      subst hb0
      rw [Nat.gcd_zero_right] at hg
      exact h _ (by omega)
    · skip
      refine z_lload (pc := 38) dX10_commonDivisor_38 rfl ?_
      refine z_lconst (pc := 40) (v := 0) dX10_commonDivisor_40 (by decide) ?_
      refine zq_lc_eq (pc := 41) (cy := 0) (tgt := 66) dX10_commonDivisor_41 dX10_commonDivisor_42 rfl rfl (by decide) (fun h41 => ?_) (fun h41 => ?_)
      · skip
        refine z_lload (pc := 66) dX10_commonDivisor_66 rfl ?_
        refine z_lret (pc := 68) dX10_commonDivisor_68 rfl ?_
        subst hb0
        rw [Nat.gcd_zero_right] at hg
        exact h _ (by omega)
      · skip
        exfalso; omega
  | succ k ih =>
  intro a b t va vb c ha hb hc hle hk ht hg
  refine z_iload (pc := 31) dX10_commonDivisor_31 rfl ?_
  refine z_bipush (pc := 33) (v := 100) dX10_commonDivisor_33 (by decide) ?_
  refine zq_icmp_ge (pc := 35) (cy := 100) (tgt := 66) dX10_commonDivisor_35 rfl rfl (by decide) (fun h35 => ?_) (fun h35 => ?_)
  · skip
    refine z_lload (pc := 66) dX10_commonDivisor_66 rfl ?_
    refine z_lret (pc := 68) dX10_commonDivisor_68 rfl ?_
    have hb0 : b = 0 := by omega
    subst hb0
    rw [Nat.gcd_zero_right] at hg
    exact h _ (by omega)
  · skip
    refine z_lload (pc := 38) dX10_commonDivisor_38 rfl ?_
    refine z_lconst (pc := 40) (v := 0) dX10_commonDivisor_40 (by decide) ?_
    refine zq_lc_eq (pc := 41) (cy := 0) (tgt := 66) dX10_commonDivisor_41 dX10_commonDivisor_42 rfl rfl (by decide) (fun h41 => ?_) (fun h41 => ?_)
    · skip
      refine z_lload (pc := 66) dX10_commonDivisor_66 rfl ?_
      refine z_lret (pc := 68) dX10_commonDivisor_68 rfl ?_
      have hb0 : b = 0 := by omega
      subst hb0
      rw [Nat.gcd_zero_right] at hg
      exact h _ (by omega)
    · skip
      refine z_lload (pc := 45) dX10_commonDivisor_45 rfl ?_
      refine z_lload (pc := 47) dX10_commonDivisor_47 rfl ?_
      refine z_lremT (pc := 49) dX10_commonDivisor_49 rfl rfl (by omega) (by omega) (fun v49 e49 => ?_)
      refine z_lstore (pc := 50) dX10_commonDivisor_50 rfl rfl (by dsimp only [setI, setL, List.set]) ?_
      refine z_lload (pc := 52) dX10_commonDivisor_52 rfl ?_
      refine z_lstore (pc := 54) dX10_commonDivisor_54 rfl rfl (by dsimp only [setI, setL, List.set]) ?_
      refine z_lload (pc := 56) dX10_commonDivisor_56 rfl ?_
      refine z_lstore (pc := 58) dX10_commonDivisor_58 rfl rfl (by dsimp only [setI, setL, List.set]) ?_
      refine z_iincT (pc := 60) dX10_commonDivisor_60 rfl rfl (by decide) (by decide) (by omega) (by omega) rfl rfl (fun v => by dsimp only [setI, setL, List.set]) (fun v60 e60 => ?_)
      refine z_goto (pc := 63) (tgt := 31) dX10_commonDivisor_63 rfl ?_
      refine z_sub (L' := [some _, none, some _, none, some _, none, some _, none, some _, none, none]) ⟨rfl, rfl, rfl, rfl, rfl, trivial⟩ ?_
      have hmod : v49.toInt = ((a % b : Nat) : Int) := by rw [e49, ha, hb]; rfl
      exact ih b (a % b) (t + 1) _ _ _ hb hmod (by omega) (Nat.le_of_lt (Nat.mod_lt a (by omega))) (prod_half hle (by omega) hk) (by omega) (by rw [gcd_step]; exact hg)

theorem prod_80 {a b : Nat} (ha : a < 2 ^ 40) (hb : b < 2 ^ 40) : a * b < 2 ^ 80 := by
  rw [show (2 : Nat) ^ 80 = 2 ^ 40 * 2 ^ 40 by rw [← Nat.pow_add]]
  exact Nat.mul_lt_mul_of_lt_of_le ha (Nat.le_of_lt hb) (by decide)

theorem c_cd_first {l : Launch} {G : Gx} {d : Nat} {σ : Sg} {Q : Option Value → Sg → Prop} {x y va vb : Int64} {a b : Nat} (ha : va.toInt = (a : Int)) (hb : vb.toInt = (b : Int)) (ha2 : a < 2 ^ 40) (hb2 : b < 2 ^ 40) (h : ∀ r : Int64, r.toInt = (Nat.gcd a b : Int) → Q (some (.long r)) σ) : Z l G M_X10_commonDivisor d 31 [some (.long x), none, some (.long y), none, some (.long va), none, some (.long vb), none, some (.int 0), none, none] [] σ Q := by
  have z0 : (0 : Int32).toInt = 0 := rfl
  rcases Nat.le_total b a with hle | hle
  · exact c_cd_loop h 80 a b 0 va vb 0 ha hb rfl hle (prod_80 ha2 hb2) (by omega) rfl
  refine z_iload (pc := 31) dX10_commonDivisor_31 rfl ?_
  refine z_bipush (pc := 33) (v := 100) dX10_commonDivisor_33 (by decide) ?_
  refine z_icmp_ge (pc := 35) (tgt := 66) dX10_commonDivisor_35 rfl (fun hc => absurd hc (by decide)) (fun _ => ?_)
  refine z_lload (pc := 38) dX10_commonDivisor_38 rfl ?_
  refine z_lconst (pc := 40) (v := 0) dX10_commonDivisor_40 (by decide) ?_
  refine zq_lc_eq (pc := 41) (cy := 0) (tgt := 66) dX10_commonDivisor_41 dX10_commonDivisor_42 rfl rfl (by decide) (fun h41 => ?_) (fun h41 => ?_)
  · skip
    refine z_lload (pc := 66) dX10_commonDivisor_66 rfl ?_
    refine z_lret (pc := 68) dX10_commonDivisor_68 rfl ?_
    have hb0 : b = 0 := by omega
    subst hb0
    rw [Nat.gcd_zero_right] at h
    exact h _ (by omega)
  · skip
    refine z_lload (pc := 45) dX10_commonDivisor_45 rfl ?_
    refine z_lload (pc := 47) dX10_commonDivisor_47 rfl ?_
    refine z_lremT (pc := 49) dX10_commonDivisor_49 rfl rfl (by omega) (by omega) (fun v49 e49 => ?_)
    refine z_lstore (pc := 50) dX10_commonDivisor_50 rfl rfl (by dsimp only [setI, setL, List.set]) ?_
    refine z_lload (pc := 52) dX10_commonDivisor_52 rfl ?_
    refine z_lstore (pc := 54) dX10_commonDivisor_54 rfl rfl (by dsimp only [setI, setL, List.set]) ?_
    refine z_lload (pc := 56) dX10_commonDivisor_56 rfl ?_
    refine z_lstore (pc := 58) dX10_commonDivisor_58 rfl rfl (by dsimp only [setI, setL, List.set]) ?_
    refine z_iincT (pc := 60) dX10_commonDivisor_60 rfl rfl (by decide) (by decide) (by omega) (by omega) rfl rfl (fun v => by dsimp only [setI, setL, List.set]) (fun v60 e60 => ?_)
    refine z_goto (pc := 63) (tgt := 31) dX10_commonDivisor_63 rfl ?_
    refine z_sub (L' := [some _, none, some _, none, some _, none, some _, none, some _, none, none]) ⟨rfl, rfl, rfl, rfl, rfl, trivial⟩ ?_
    have hmod : v49.toInt = ((a % b : Nat) : Int) := by rw [e49, ha, hb]; rfl
    exact c_cd_loop (g := Nat.gcd a b) h 80 b (a % b) 1 _ _ _ hb hmod (by omega) (Nat.le_of_lt (Nat.mod_lt a (by omega))) (prod_80 hb2 (Nat.lt_of_le_of_lt (Nat.mod_le a b) ha2)) (by omega) (gcd_step a b)

theorem c_cd {l : Launch} {G : Gx} {d : Nat} {σ : Sg} {Q : Option Value → Sg → Prop} {x y : Int64} (hx : x.toInt.natAbs < 2 ^ 40) (hy : y.toInt.natAbs < 2 ^ 40) (h : ∀ r : Int64, r.toInt = (gg x.toInt y.toInt : Int) → Q (some (.long r)) σ) : Z l G M_X10_commonDivisor (d) 0 [some (.long x), none, some (.long y), none] [] σ Q := by
  refine z_sub (L' := [some (.long x), none, some (.long y), none, none, none, none, none, none, none, none]) ⟨rfl, rfl, trivial⟩ ?_
  refine z_lload_n (pc := 0) dX10_commonDivisor_0 rfl ?_
  refine z_lconst (pc := 1) (v := 0) dX10_commonDivisor_1 (by decide) ?_
  refine zq_lc_ge (pc := 2) (cy := 0) (tgt := 11) dX10_commonDivisor_2 dX10_commonDivisor_3 rfl rfl (by decide) (fun h2 => ?_) (fun h2 => ?_)
  · skip
    refine z_lload_n (pc := 11) dX10_commonDivisor_11 rfl ?_
    refine z_lstore (pc := 12) dX10_commonDivisor_12 rfl rfl (by dsimp only [setI, setL, List.set]) ?_
    refine z_lload_n (pc := 14) dX10_commonDivisor_14 rfl ?_
    refine z_lconst (pc := 15) (v := 0) dX10_commonDivisor_15 (by decide) ?_
    refine zq_lc_ge (pc := 16) (cy := 0) (tgt := 25) dX10_commonDivisor_16 dX10_commonDivisor_17 rfl rfl (by decide) (fun h16 => ?_) (fun h16 => ?_)
    · skip
      refine z_lload_n (pc := 25) dX10_commonDivisor_25 rfl ?_
      refine z_lstore (pc := 26) dX10_commonDivisor_26 rfl rfl (by dsimp only [setI, setL, List.set]) ?_
      refine z_iconst (pc := 28) (v := 0) dX10_commonDivisor_28 (by decide) ?_
      refine z_istore (pc := 29) dX10_commonDivisor_29 rfl rfl (by dsimp only [setI, setL, List.set]) ?_
      exact c_cd_first (a := x.toInt.natAbs) (b := y.toInt.natAbs) (by omega) (by omega) hx hy h
    · skip
      refine z_lload_n (pc := 20) dX10_commonDivisor_20 rfl ?_
      refine z_lnegT (pc := 21) dX10_commonDivisor_21 rfl (by omega) (by omega) (fun v21 e21 => ?_)
      refine z_goto (pc := 22) (tgt := 26) dX10_commonDivisor_22 rfl ?_
      refine z_lstore (pc := 26) dX10_commonDivisor_26 rfl rfl (by dsimp only [setI, setL, List.set]) ?_
      refine z_iconst (pc := 28) (v := 0) dX10_commonDivisor_28 (by decide) ?_
      refine z_istore (pc := 29) dX10_commonDivisor_29 rfl rfl (by dsimp only [setI, setL, List.set]) ?_
      exact c_cd_first (a := x.toInt.natAbs) (b := y.toInt.natAbs) (by omega) (by omega) hx hy h
  · skip
    refine z_lload_n (pc := 6) dX10_commonDivisor_6 rfl ?_
    refine z_lnegT (pc := 7) dX10_commonDivisor_7 rfl (by omega) (by omega) (fun v7 e7 => ?_)
    refine z_goto (pc := 8) (tgt := 12) dX10_commonDivisor_8 rfl ?_
    refine z_lstore (pc := 12) dX10_commonDivisor_12 rfl rfl (by dsimp only [setI, setL, List.set]) ?_
    refine z_lload_n (pc := 14) dX10_commonDivisor_14 rfl ?_
    refine z_lconst (pc := 15) (v := 0) dX10_commonDivisor_15 (by decide) ?_
    refine zq_lc_ge (pc := 16) (cy := 0) (tgt := 25) dX10_commonDivisor_16 dX10_commonDivisor_17 rfl rfl (by decide) (fun h16 => ?_) (fun h16 => ?_)
    · skip
      refine z_lload_n (pc := 25) dX10_commonDivisor_25 rfl ?_
      refine z_lstore (pc := 26) dX10_commonDivisor_26 rfl rfl (by dsimp only [setI, setL, List.set]) ?_
      refine z_iconst (pc := 28) (v := 0) dX10_commonDivisor_28 (by decide) ?_
      refine z_istore (pc := 29) dX10_commonDivisor_29 rfl rfl (by dsimp only [setI, setL, List.set]) ?_
      exact c_cd_first (a := x.toInt.natAbs) (b := y.toInt.natAbs) (by omega) (by omega) hx hy h
    · skip
      refine z_lload_n (pc := 20) dX10_commonDivisor_20 rfl ?_
      refine z_lnegT (pc := 21) dX10_commonDivisor_21 rfl (by omega) (by omega) (fun v21 e21 => ?_)
      refine z_goto (pc := 22) (tgt := 26) dX10_commonDivisor_22 rfl ?_
      refine z_lstore (pc := 26) dX10_commonDivisor_26 rfl rfl (by dsimp only [setI, setL, List.set]) ?_
      refine z_iconst (pc := 28) (v := 0) dX10_commonDivisor_28 (by decide) ?_
      refine z_istore (pc := 29) dX10_commonDivisor_29 rfl rfl (by dsimp only [setI, setL, List.set]) ?_
      exact c_cd_first (a := x.toInt.natAbs) (b := y.toInt.natAbs) (by omega) (by omega) hx hy h

theorem c_without {l : Launch} {G : Gx} {d : Nat} {σ : Sg} {Q : Option Value → Sg → Prop} {x y : Int64} (hx : x.toInt.natAbs < 2 ^ 40) (hy : y.toInt.natAbs < 2 ^ 40) (h0 : gg x.toInt y.toInt ≠ 0) (h : ∀ r : Int64, r.toInt = x.toInt.tdiv (gg x.toInt y.toInt : Int) → Q (some (.long r)) σ) : Z l G M_X10_without (d + 1) 0 [some (.long x), none, some (.long y), none] [] σ Q := by
  refine z_sub (L' := [some (.long x), none, some (.long y), none, none, none]) ⟨rfl, rfl, trivial⟩ ?_
  refine z_lload_n (pc := 0) dX10_without_0 rfl ?_
  refine z_lload_n (pc := 1) dX10_without_1 rfl ?_
  refine z_is2 (pc := 2) dX10_without_2 ks_X10_329 rfl rfl ?_
  refine c_cd hx hy (fun g eg => ?_)
  refine z_lstore (pc := 5) dX10_without_5 rfl rfl (by dsimp only [setI, setL, List.set]) ?_
  refine z_lload (pc := 7) dX10_without_7 rfl ?_
  refine z_lconst (pc := 9) (v := 1) dX10_without_9 (by decide) ?_
  refine zq_lc_le (pc := 10) (cy := 1) (tgt := 21) dX10_without_10 dX10_without_11 rfl rfl (by decide) (fun h10 => ?_) (fun h10 => ?_)
  · skip
    refine z_lload_n (pc := 21) dX10_without_21 rfl ?_
    refine z_lret (pc := 22) dX10_without_22 rfl ?_
    first | exact h _ (by omega) | (rw [eg] at e17; exact h _ e17) | (have e1 : (gg x.toInt y.toInt : Int) = 1 := (by omega); rw [e1, Int.tdiv_one] at h; exact h _ rfl)
  · skip
    refine z_lload_n (pc := 14) dX10_without_14 rfl ?_
    refine z_lload (pc := 15) dX10_without_15 rfl ?_
    refine z_ldivT (pc := 17) dX10_without_17 rfl rfl (by omega) (fun v17 e17 => ?_)
    refine z_goto (pc := 18) (tgt := 22) dX10_without_18 rfl ?_
    refine z_lret (pc := 22) dX10_without_22 rfl ?_
    first | exact h _ (by omega) | (rw [eg] at e17; exact h _ e17) | (have e1 : (gg x.toInt y.toInt : Int) = 1 := (by omega); rw [e1, Int.tdiv_one] at h; exact h _ rfl)

theorem c_dv_loop {l : Launch} {G : Gx} {d : Nat} {σ : Sg} {Q : Option Value → Sg → Prop} {x y : Int64} {g : Nat} (h : ∀ r : Int64, r.toInt = (g : Int) → Q (some (.long r)) σ) : ∀ (k a b : Nat) (va vb : Int64), va.toInt = (a : Int) → vb.toInt = (b : Int) → b < k → Nat.gcd a b = g → Z l G M_X11_divisor d 28 [some (.long x), none, some (.long y), none, some (.long va), none, some (.long vb), none, none, none] [] σ Q := by
  intro k
  induction k with
  | zero => intro a b va vb ha hb hk hg; omega
  | succ k ih =>
  intro a b va vb ha hb hk hg
  refine z_lload (pc := 28) dX11_divisor_28 rfl ?_
  refine z_lconst (pc := 30) (v := 0) dX11_divisor_30 (by decide) ?_
  refine zq_lc_le (pc := 31) (cy := 0) (tgt := 53) dX11_divisor_31 dX11_divisor_32 rfl rfl (by decide) (fun h31 => ?_) (fun h31 => ?_)
  · skip
    refine z_lload (pc := 53) dX11_divisor_53 rfl ?_
    refine z_lret (pc := 55) dX11_divisor_55 rfl ?_
    have hb0 : b = 0 := by omega
    subst hb0
    rw [Nat.gcd_zero_right] at hg
    exact h _ (by omega)
  · skip
    refine z_lload (pc := 35) dX11_divisor_35 rfl ?_
    refine z_lload (pc := 37) dX11_divisor_37 rfl ?_
    refine z_lremT (pc := 39) dX11_divisor_39 rfl rfl (by omega) (by omega) (fun v39 e39 => ?_)
    refine z_lstore (pc := 40) dX11_divisor_40 rfl rfl (by dsimp only [setI, setL, List.set]) ?_
    refine z_lload (pc := 42) dX11_divisor_42 rfl ?_
    refine z_lstore (pc := 44) dX11_divisor_44 rfl rfl (by dsimp only [setI, setL, List.set]) ?_
    refine z_lload (pc := 46) dX11_divisor_46 rfl ?_
    refine z_lstore (pc := 48) dX11_divisor_48 rfl rfl (by dsimp only [setI, setL, List.set]) ?_
    refine z_goto (pc := 50) (tgt := 28) dX11_divisor_50 rfl ?_
    refine z_sub (L' := [some _, none, some _, none, some _, none, some _, none, none, none]) ⟨rfl, rfl, rfl, rfl, trivial⟩ ?_
    have hmod : v39.toInt = ((a % b : Nat) : Int) := by rw [e39, ha, hb]; rfl
    exact ih b (a % b) _ _ hb hmod (by have := Nat.mod_lt a (show b > 0 by omega); omega) (by rw [gcd_step]; exact hg)

theorem c_dv {l : Launch} {G : Gx} {d : Nat} {σ : Sg} {Q : Option Value → Sg → Prop} {x y : Int64} (hx : x.toInt.natAbs < 2 ^ 62) (hy : y.toInt.natAbs < 2 ^ 62) (h : ∀ r : Int64, r.toInt = (gg x.toInt y.toInt : Int) → Q (some (.long r)) σ) : Z l G M_X11_divisor (d) 0 [some (.long x), none, some (.long y), none] [] σ Q := by
  refine z_sub (L' := [some (.long x), none, some (.long y), none, none, none, none, none, none, none]) ⟨rfl, rfl, trivial⟩ ?_
  refine z_lload_n (pc := 0) dX11_divisor_0 rfl ?_
  refine z_lconst (pc := 1) (v := 0) dX11_divisor_1 (by decide) ?_
  refine zq_lc_ge (pc := 2) (cy := 0) (tgt := 11) dX11_divisor_2 dX11_divisor_3 rfl rfl (by decide) (fun h2 => ?_) (fun h2 => ?_)
  · skip
    refine z_lload_n (pc := 11) dX11_divisor_11 rfl ?_
    refine z_lstore (pc := 12) dX11_divisor_12 rfl rfl (by dsimp only [setI, setL, List.set]) ?_
    refine z_lload_n (pc := 14) dX11_divisor_14 rfl ?_
    refine z_lconst (pc := 15) (v := 0) dX11_divisor_15 (by decide) ?_
    refine zq_lc_ge (pc := 16) (cy := 0) (tgt := 25) dX11_divisor_16 dX11_divisor_17 rfl rfl (by decide) (fun h16 => ?_) (fun h16 => ?_)
    · skip
      refine z_lload_n (pc := 25) dX11_divisor_25 rfl ?_
      refine z_lstore (pc := 26) dX11_divisor_26 rfl rfl (by dsimp only [setI, setL, List.set]) ?_
      exact c_dv_loop (g := gg x.toInt y.toInt) h (y.toInt.natAbs + 1) x.toInt.natAbs y.toInt.natAbs _ _ (by omega) (by omega) (by omega) rfl
    · skip
      refine z_lload_n (pc := 20) dX11_divisor_20 rfl ?_
      refine z_lnegT (pc := 21) dX11_divisor_21 rfl (by omega) (by omega) (fun v21 e21 => ?_)
      refine z_goto (pc := 22) (tgt := 26) dX11_divisor_22 rfl ?_
      refine z_lstore (pc := 26) dX11_divisor_26 rfl rfl (by dsimp only [setI, setL, List.set]) ?_
      exact c_dv_loop (g := gg x.toInt y.toInt) h (y.toInt.natAbs + 1) x.toInt.natAbs y.toInt.natAbs _ _ (by omega) (by omega) (by omega) rfl
  · skip
    refine z_lload_n (pc := 6) dX11_divisor_6 rfl ?_
    refine z_lnegT (pc := 7) dX11_divisor_7 rfl (by omega) (by omega) (fun v7 e7 => ?_)
    refine z_goto (pc := 8) (tgt := 12) dX11_divisor_8 rfl ?_
    refine z_lstore (pc := 12) dX11_divisor_12 rfl rfl (by dsimp only [setI, setL, List.set]) ?_
    refine z_lload_n (pc := 14) dX11_divisor_14 rfl ?_
    refine z_lconst (pc := 15) (v := 0) dX11_divisor_15 (by decide) ?_
    refine zq_lc_ge (pc := 16) (cy := 0) (tgt := 25) dX11_divisor_16 dX11_divisor_17 rfl rfl (by decide) (fun h16 => ?_) (fun h16 => ?_)
    · skip
      refine z_lload_n (pc := 25) dX11_divisor_25 rfl ?_
      refine z_lstore (pc := 26) dX11_divisor_26 rfl rfl (by dsimp only [setI, setL, List.set]) ?_
      exact c_dv_loop (g := gg x.toInt y.toInt) h (y.toInt.natAbs + 1) x.toInt.natAbs y.toInt.natAbs _ _ (by omega) (by omega) (by omega) rfl
    · skip
      refine z_lload_n (pc := 20) dX11_divisor_20 rfl ?_
      refine z_lnegT (pc := 21) dX11_divisor_21 rfl (by omega) (by omega) (fun v21 e21 => ?_)
      refine z_goto (pc := 22) (tgt := 26) dX11_divisor_22 rfl ?_
      refine z_lstore (pc := 26) dX11_divisor_26 rfl rfl (by dsimp only [setI, setL, List.set]) ?_
      exact c_dv_loop (g := gg x.toInt y.toInt) h (y.toInt.natAbs + 1) x.toInt.natAbs y.toInt.natAbs _ _ (by omega) (by omega) (by omega) rfl
