/-! numbers as integers: results named, with what they are; branches by integers -/
theorem t32_add {x y : Int32} (h1 : -2147483648 ≤ x.toInt + y.toInt) (h2 : x.toInt + y.toInt < 2147483648) : (x + y).toInt = x.toInt + y.toInt := by
  rw [Int32.toInt_add]; exact Int.bmod_eq_of_le_mul_two (by omega) (by omega)
theorem t32_sub {x y : Int32} (h1 : -2147483648 ≤ x.toInt - y.toInt) (h2 : x.toInt - y.toInt < 2147483648) : (x - y).toInt = x.toInt - y.toInt := by
  rw [Int32.toInt_sub]; exact Int.bmod_eq_of_le_mul_two (by omega) (by omega)
theorem t32_mul {x y : Int32} (h1 : -2147483648 ≤ x.toInt * y.toInt) (h2 : x.toInt * y.toInt < 2147483648) : (x * y).toInt = x.toInt * y.toInt := by
  rw [Int32.toInt_mul]; exact Int.bmod_eq_of_le_mul_two (by omega) (by omega)
theorem t32_neg {x : Int32} (h1 : -2147483648 ≤ -x.toInt) (h2 : -x.toInt < 2147483648) : (-x).toInt = -x.toInt := by
  rw [Int32.toInt_neg]; exact Int.bmod_eq_of_le_mul_two (by omega) (by omega)
theorem t64_add {x y : Int64} (h1 : -9223372036854775808 ≤ x.toInt + y.toInt) (h2 : x.toInt + y.toInt < 9223372036854775808) : (x + y).toInt = x.toInt + y.toInt := by
  rw [Int64.toInt_add]; exact Int.bmod_eq_of_le_mul_two (by omega) (by omega)
theorem t64_sub {x y : Int64} (h1 : -9223372036854775808 ≤ x.toInt - y.toInt) (h2 : x.toInt - y.toInt < 9223372036854775808) : (x - y).toInt = x.toInt - y.toInt := by
  rw [Int64.toInt_sub]; exact Int.bmod_eq_of_le_mul_two (by omega) (by omega)
theorem t64_mul {x y : Int64} (h1 : -9223372036854775808 ≤ x.toInt * y.toInt) (h2 : x.toInt * y.toInt < 9223372036854775808) : (x * y).toInt = x.toInt * y.toInt := by
  rw [Int64.toInt_mul]; exact Int.bmod_eq_of_le_mul_two (by omega) (by omega)
theorem t64_neg {x : Int64} (h1 : -9223372036854775808 ≤ -x.toInt) (h2 : -x.toInt < 9223372036854775808) : (-x).toInt = -x.toInt := by
  rw [Int64.toInt_neg]; exact Int.bmod_eq_of_le_mul_two (by omega) (by omega)
theorem t_tdiv {a b : Int} (hb : 0 < b) : (0 ≤ a → 0 ≤ a.tdiv b ∧ a.tdiv b ≤ a) ∧ (a ≤ 0 → a ≤ a.tdiv b ∧ a.tdiv b ≤ 0) := by
  constructor
  · intro h
    rw [Int.tdiv_eq_ediv_of_nonneg h]
    exact ⟨Int.ediv_nonneg h (by omega), Int.ediv_le_self b h⟩
  · intro h
    have e : a.tdiv b = -((-a).tdiv b) := by rw [Int.neg_tdiv]; omega
    rw [e, Int.tdiv_eq_ediv_of_nonneg (by omega : 0 ≤ -a)]
    have := Int.ediv_nonneg (a := -a) (b := b) (by omega) (by omega)
    have := Int.ediv_le_self b (a := -a) (by omega)
    omega
theorem t32_div {x y : Int32} (h : 0 < y.toInt) : (x / y).toInt = x.toInt.tdiv y.toInt := by
  rw [Int32.toInt_div]
  have h1 := x.toInt_lt
  have h2 := x.le_toInt
  have h3 := t_tdiv (a := x.toInt) h
  rcases Int.le_total 0 x.toInt with h0 | h0
  · have := h3.1 h0
    exact Int.bmod_eq_of_le_mul_two (by omega) (by omega)
  · have := h3.2 h0
    exact Int.bmod_eq_of_le_mul_two (by omega) (by omega)
theorem t64_div {x y : Int64} (h : 0 < y.toInt) : (x / y).toInt = x.toInt.tdiv y.toInt := by
  rw [Int64.toInt_div]
  have h1 := x.toInt_lt
  have h2 := x.le_toInt
  have h3 := t_tdiv (a := x.toInt) h
  rcases Int.le_total 0 x.toInt with h0 | h0
  · have := h3.1 h0
    exact Int.bmod_eq_of_le_mul_two (by omega) (by omega)
  · have := h3.2 h0
    exact Int.bmod_eq_of_le_mul_two (by omega) (by omega)
/-- a long's remainder, of numbers that are not below 0 -/
theorem t64_rem {x y : Int64} (h : 0 < y.toInt) (h0 : 0 ≤ x.toInt) : (x - x / y * y).toInt = x.toInt % y.toInt := by
  have hx := x.toInt_lt
  have hy := y.toInt_lt
  have hd := t64_div (x := x) h
  have q0 := Int.mul_nonneg (by omega : 0 ≤ y.toInt) (Int.ediv_nonneg h0 (by omega : 0 ≤ y.toInt))
  rw [Int.tdiv_eq_ediv_of_nonneg h0] at hd
  have e := Int.mul_ediv_add_emod x.toInt y.toInt
  have m1 := Int.emod_nonneg x.toInt (by omega : y.toInt ≠ 0)
  have m2 := Int.emod_lt_of_pos x.toInt h
  have hm : (x / y * y).toInt = x.toInt / y.toInt * y.toInt := by
    rw [t64_mul]
    · rw [hd]
    · rw [hd, Int.mul_comm]; omega
    · rw [hd, Int.mul_comm]; omega
  rw [t64_sub]
  · rw [hm, Int.mul_comm]; omega
  · rw [hm, Int.mul_comm]; omega
  · rw [hm, Int.mul_comm]; omega
theorem zclamp {i : Int32} {j : Nat} (h : i.toInt = (j : Int)) : i.toNatClampNeg = j := by
  unfold Int32.toNatClampNeg
  omega
theorem zin_of {i : Int32} {j n : Nat} (h : i.toInt = (j : Int)) (hj : j < n) : vp_in i n := by
  rw [vp_in_iff]
  omega
section ZI
variable {l : Launch} {G : Gx} {M : Mt} {d pc : Nat} {L : Lc} {st : List Value} {σ : Sg} {Q : Option Value → Sg → Prop}
theorem z_iaddT {x y : Int32} {cx cy : Int} (hd : decode M.2.1 pc = .ok (.iadd, 1)) (hx : x.toInt = cx) (hy : y.toInt = cy) (h1 : -2147483648 ≤ cx + cy) (h2 : cx + cy < 2147483648) (k : ∀ v : Int32, v.toInt = cx + cy → Z l G M d (pc + 1) L (.int v :: st) σ Q) : Z l G M d pc L (.int y :: .int x :: st) σ Q := by
  subst hx; subst hy
  exact z_iadd hd (k _ (t32_add h1 h2))
theorem z_isubT {x y : Int32} {cx cy : Int} (hd : decode M.2.1 pc = .ok (.isub, 1)) (hx : x.toInt = cx) (hy : y.toInt = cy) (h1 : -2147483648 ≤ cx - cy) (h2 : cx - cy < 2147483648) (k : ∀ v : Int32, v.toInt = cx - cy → Z l G M d (pc + 1) L (.int v :: st) σ Q) : Z l G M d pc L (.int y :: .int x :: st) σ Q := by
  subst hx; subst hy
  exact z_isub hd (k _ (t32_sub h1 h2))
theorem z_imulT {x y : Int32} {cx cy : Int} (hd : decode M.2.1 pc = .ok (.imul, 1)) (hx : x.toInt = cx) (hy : y.toInt = cy) (h1 : -2147483648 ≤ cx * cy) (h2 : cx * cy < 2147483648) (k : ∀ v : Int32, v.toInt = cx * cy → Z l G M d (pc + 1) L (.int v :: st) σ Q) : Z l G M d pc L (.int y :: .int x :: st) σ Q := by
  subst hx; subst hy
  exact z_imul hd (k _ (t32_mul h1 h2))
theorem z_inegT {x : Int32} {cx : Int} (hd : decode M.2.1 pc = .ok (.ineg, 1)) (hx : x.toInt = cx) (h1 : -2147483648 ≤ -cx) (h2 : -cx < 2147483648) (k : ∀ v : Int32, v.toInt = -cx → Z l G M d (pc + 1) L (.int v :: st) σ Q) : Z l G M d pc L (.int x :: st) σ Q := by
  subst hx
  exact z_ineg hd (k _ (t32_neg h1 h2))
theorem z_idivT {x y : Int32} {cx cy : Int} (hd : decode M.2.1 pc = .ok (.idiv, 1)) (hx : x.toInt = cx) (hy : y.toInt = cy) (h1 : 0 < cy) (k : ∀ v : Int32, v.toInt = cx.tdiv cy → Z l G M d (pc + 1) L (.int v :: st) σ Q) : Z l G M d pc L (.int y :: .int x :: st) σ Q := by
  subst hx; subst hy
  exact z_idiv hd (fun e => by rw [e] at h1; exact absurd h1 (by decide)) (k _ (t32_div h1))
theorem z_laddT {x y : Int64} {cx cy : Int} (hd : decode M.2.1 pc = .ok (.ladd, 1)) (hx : x.toInt = cx) (hy : y.toInt = cy) (h1 : -9223372036854775808 ≤ cx + cy) (h2 : cx + cy < 9223372036854775808) (k : ∀ v : Int64, v.toInt = cx + cy → Z l G M d (pc + 1) L (.long v :: st) σ Q) : Z l G M d pc L (.long y :: .long x :: st) σ Q := by
  subst hx; subst hy
  exact z_ladd hd (k _ (t64_add h1 h2))
theorem z_lsubT {x y : Int64} {cx cy : Int} (hd : decode M.2.1 pc = .ok (.lsub, 1)) (hx : x.toInt = cx) (hy : y.toInt = cy) (h1 : -9223372036854775808 ≤ cx - cy) (h2 : cx - cy < 9223372036854775808) (k : ∀ v : Int64, v.toInt = cx - cy → Z l G M d (pc + 1) L (.long v :: st) σ Q) : Z l G M d pc L (.long y :: .long x :: st) σ Q := by
  subst hx; subst hy
  exact z_lsub hd (k _ (t64_sub h1 h2))
theorem z_lmulT {x y : Int64} {cx cy : Int} (hd : decode M.2.1 pc = .ok (.lmul, 1)) (hx : x.toInt = cx) (hy : y.toInt = cy) (h1 : -9223372036854775808 ≤ cx * cy) (h2 : cx * cy < 9223372036854775808) (k : ∀ v : Int64, v.toInt = cx * cy → Z l G M d (pc + 1) L (.long v :: st) σ Q) : Z l G M d pc L (.long y :: .long x :: st) σ Q := by
  subst hx; subst hy
  exact z_lmul hd (k _ (t64_mul h1 h2))
theorem z_lnegT {x : Int64} {cx : Int} (hd : decode M.2.1 pc = .ok (.lneg, 1)) (hx : x.toInt = cx) (h1 : -9223372036854775808 ≤ -cx) (h2 : -cx < 9223372036854775808) (k : ∀ v : Int64, v.toInt = -cx → Z l G M d (pc + 1) L (.long v :: st) σ Q) : Z l G M d pc L (.long x :: st) σ Q := by
  subst hx
  exact z_lneg hd (k _ (t64_neg h1 h2))
theorem z_ldivT {x y : Int64} {cx cy : Int} (hd : decode M.2.1 pc = .ok (.ldiv, 1)) (hx : x.toInt = cx) (hy : y.toInt = cy) (h1 : 0 < cy) (k : ∀ v : Int64, v.toInt = cx.tdiv cy → Z l G M d (pc + 1) L (.long v :: st) σ Q) : Z l G M d pc L (.long y :: .long x :: st) σ Q := by
  subst hx; subst hy
  exact z_ldiv hd (fun e => by rw [e] at h1; exact absurd h1 (by decide)) (k _ (t64_div h1))
theorem z_lremT {x y : Int64} {cx cy : Int} (hd : decode M.2.1 pc = .ok (.lrem, 1)) (hx : x.toInt = cx) (hy : y.toInt = cy) (h1 : 0 < cy) (h0 : 0 ≤ cx) (k : ∀ v : Int64, v.toInt = cx % cy → Z l G M d (pc + 1) L (.long v :: st) σ Q) : Z l G M d pc L (.long y :: .long x :: st) σ Q := by
  subst hx; subst hy
  exact z_lrem hd (fun e => by rw [e] at h1; exact absurd h1 (by decide)) (k _ (t64_rem h1 h0))
theorem z_i2lT {x : Int32} {cx : Int} (hd : decode M.2.1 pc = .ok (.i2l, 1)) (hx : x.toInt = cx) (k : ∀ v : Int64, v.toInt = cx → Z l G M d (pc + 1) L (.long v :: st) σ Q) : Z l G M d pc L (.int x :: st) σ Q := by
  subst hx
  exact z_i2l hd (k _ (Int32.toInt_toInt64 x))
theorem z_l2iT {x : Int64} {cx : Int} (hd : decode M.2.1 pc = .ok (.l2i, 1)) (hx : x.toInt = cx) (h1 : -2147483648 ≤ cx) (h2 : cx < 2147483648) (k : ∀ v : Int32, v.toInt = cx → Z l G M d (pc + 1) L (.int v :: st) σ Q) : Z l G M d pc L (.long x :: st) σ Q := by
  subst hx
  exact z_l2i hd (k _ (by rw [Int64.toInt_toInt32]; exact Int.bmod_eq_of_le_mul_two (by omega) (by omega)))
theorem z_iincT {n : Nat} {j : Int} {x : Int32} {cx : Int} {L' : Int32 → Lc} (hd : decode M.2.1 pc = .ok (.iinc n j, 3)) (hx : L[n]? = some (some (.int x))) (hc : x.toInt = cx) (hj1 : -128 ≤ j) (hj2 : j < 128) (h1 : -2147483648 ≤ cx + j) (h2 : cx + j < 2147483648) (hn : Nat.blt n M.2.2.1 = true) (hok : okI L n = true) (hL : ∀ v, setI L n (.int v) = L' v) (k : ∀ v : Int32, v.toInt = cx + j → Z l G M d (pc + 3) (L' v) st σ Q) : Z l G M d pc L st σ Q := by
  subst hc
  have hj : (Int32.ofInt j).toInt = j := Int32.toInt_ofInt_of_le (by omega) (by omega)
  exact z_iinc hd hx rfl hn hok (hL _) (k _ (by rw [t32_add] <;> rw [hj] <;> omega))
theorem zq_if_eq {x : Int32} {cx : Int} {off : Int} {tgt : Nat} (hd : decode M.2.1 pc = .ok (.ifCond .eq off, 3)) (ht : (pc : Int) + off = (tgt : Int)) (hx : x.toInt = cx) (kt : cx = 0 → Z l G M d tgt L st σ Q) (kf : cx ≠ 0 → Z l G M d (pc + 3) L st σ Q) : Z l G M d pc L (.int x :: st) σ Q := by
  subst hx
  exact z_if_eq hd ht (fun hh => kt (by rw [hh]; rfl)) (fun hh => kf (fun e => hh (Int32.toInt_inj.mp (e.trans rfl))))
theorem zq_icmp_eq {x y : Int32} {cx cy : Int} {off : Int} {tgt : Nat} (hd : decode M.2.1 pc = .ok (.if_icmp .eq off, 3)) (ht : (pc : Int) + off = (tgt : Int)) (hx : x.toInt = cx) (hy : y.toInt = cy) (kt : cx = cy → Z l G M d tgt L st σ Q) (kf : cx ≠ cy → Z l G M d (pc + 3) L st σ Q) : Z l G M d pc L (.int y :: .int x :: st) σ Q := by
  subst hx; subst hy
  exact z_icmp_eq hd ht (fun hh => kt (by rw [hh])) (fun hh => kf (fun e => hh (Int32.toInt_inj.mp (e))))
theorem zq_lc_eq {x y : Int64} {cx cy : Int} {off : Int} {tgt : Nat} (hd0 : decode M.2.1 pc = .ok (.lcmp, 1)) (hd : decode M.2.1 (pc + 1) = .ok (.ifCond .eq off, 3)) (ht : ((pc + 1 : Nat) : Int) + off = (tgt : Int)) (hx : x.toInt = cx) (hy : y.toInt = cy) (kt : cx = cy → Z l G M d tgt L st σ Q) (kf : cx ≠ cy → Z l G M d (pc + 4) L st σ Q) : Z l G M d pc L (.long y :: .long x :: st) σ Q := by
  subst hx; subst hy
  exact z_lc_eq hd0 hd ht (fun hh => kt (by rw [hh])) (fun hh => kf (fun e => hh (Int64.toInt_inj.mp (e))))
theorem zq_if_ne {x : Int32} {cx : Int} {off : Int} {tgt : Nat} (hd : decode M.2.1 pc = .ok (.ifCond .ne off, 3)) (ht : (pc : Int) + off = (tgt : Int)) (hx : x.toInt = cx) (kt : cx ≠ 0 → Z l G M d tgt L st σ Q) (kf : cx = 0 → Z l G M d (pc + 3) L st σ Q) : Z l G M d pc L (.int x :: st) σ Q := by
  subst hx
  exact z_if_ne hd ht (fun hh => kt (fun e => hh (Int32.toInt_inj.mp (e.trans rfl)))) (fun hh => kf (by rw [hh]; rfl))
theorem zq_icmp_ne {x y : Int32} {cx cy : Int} {off : Int} {tgt : Nat} (hd : decode M.2.1 pc = .ok (.if_icmp .ne off, 3)) (ht : (pc : Int) + off = (tgt : Int)) (hx : x.toInt = cx) (hy : y.toInt = cy) (kt : cx ≠ cy → Z l G M d tgt L st σ Q) (kf : cx = cy → Z l G M d (pc + 3) L st σ Q) : Z l G M d pc L (.int y :: .int x :: st) σ Q := by
  subst hx; subst hy
  exact z_icmp_ne hd ht (fun hh => kt (fun e => hh (Int32.toInt_inj.mp (e)))) (fun hh => kf (by rw [hh]))
theorem zq_lc_ne {x y : Int64} {cx cy : Int} {off : Int} {tgt : Nat} (hd0 : decode M.2.1 pc = .ok (.lcmp, 1)) (hd : decode M.2.1 (pc + 1) = .ok (.ifCond .ne off, 3)) (ht : ((pc + 1 : Nat) : Int) + off = (tgt : Int)) (hx : x.toInt = cx) (hy : y.toInt = cy) (kt : cx ≠ cy → Z l G M d tgt L st σ Q) (kf : cx = cy → Z l G M d (pc + 4) L st σ Q) : Z l G M d pc L (.long y :: .long x :: st) σ Q := by
  subst hx; subst hy
  exact z_lc_ne hd0 hd ht (fun hh => kt (fun e => hh (Int64.toInt_inj.mp (e)))) (fun hh => kf (by rw [hh]))
theorem zq_if_lt {x : Int32} {cx : Int} {off : Int} {tgt : Nat} (hd : decode M.2.1 pc = .ok (.ifCond .lt off, 3)) (ht : (pc : Int) + off = (tgt : Int)) (hx : x.toInt = cx) (kt : cx < 0 → Z l G M d tgt L st σ Q) (kf : 0 ≤ cx → Z l G M d (pc + 3) L st σ Q) : Z l G M d pc L (.int x :: st) σ Q := by
  subst hx
  exact z_if_lt hd ht (fun hh => kt (by have := Int32.lt_iff_toInt_lt.mp hh; simpa using this)) (fun hh => kf (by have := mt Int32.lt_iff_toInt_lt.mpr hh; simp at this ⊢; omega))
theorem zq_icmp_lt {x y : Int32} {cx cy : Int} {off : Int} {tgt : Nat} (hd : decode M.2.1 pc = .ok (.if_icmp .lt off, 3)) (ht : (pc : Int) + off = (tgt : Int)) (hx : x.toInt = cx) (hy : y.toInt = cy) (kt : cx < cy → Z l G M d tgt L st σ Q) (kf : cy ≤ cx → Z l G M d (pc + 3) L st σ Q) : Z l G M d pc L (.int y :: .int x :: st) σ Q := by
  subst hx; subst hy
  exact z_icmp_lt hd ht (fun hh => kt (Int32.lt_iff_toInt_lt.mp hh)) (fun hh => kf (by have := mt Int32.lt_iff_toInt_lt.mpr hh; omega))
theorem zq_lc_lt {x y : Int64} {cx cy : Int} {off : Int} {tgt : Nat} (hd0 : decode M.2.1 pc = .ok (.lcmp, 1)) (hd : decode M.2.1 (pc + 1) = .ok (.ifCond .lt off, 3)) (ht : ((pc + 1 : Nat) : Int) + off = (tgt : Int)) (hx : x.toInt = cx) (hy : y.toInt = cy) (kt : cx < cy → Z l G M d tgt L st σ Q) (kf : cy ≤ cx → Z l G M d (pc + 4) L st σ Q) : Z l G M d pc L (.long y :: .long x :: st) σ Q := by
  subst hx; subst hy
  exact z_lc_lt hd0 hd ht (fun hh => kt (Int64.lt_iff_toInt_lt.mp hh)) (fun hh => kf (by have := mt Int64.lt_iff_toInt_lt.mpr hh; omega))
theorem zq_if_ge {x : Int32} {cx : Int} {off : Int} {tgt : Nat} (hd : decode M.2.1 pc = .ok (.ifCond .ge off, 3)) (ht : (pc : Int) + off = (tgt : Int)) (hx : x.toInt = cx) (kt : 0 ≤ cx → Z l G M d tgt L st σ Q) (kf : cx < 0 → Z l G M d (pc + 3) L st σ Q) : Z l G M d pc L (.int x :: st) σ Q := by
  subst hx
  exact z_if_ge hd ht (fun hh => kt (by have := Int32.le_iff_toInt_le.mp hh; simpa using this)) (fun hh => kf (by have := mt Int32.le_iff_toInt_le.mpr hh; simp at this ⊢; omega))
theorem zq_icmp_ge {x y : Int32} {cx cy : Int} {off : Int} {tgt : Nat} (hd : decode M.2.1 pc = .ok (.if_icmp .ge off, 3)) (ht : (pc : Int) + off = (tgt : Int)) (hx : x.toInt = cx) (hy : y.toInt = cy) (kt : cy ≤ cx → Z l G M d tgt L st σ Q) (kf : cx < cy → Z l G M d (pc + 3) L st σ Q) : Z l G M d pc L (.int y :: .int x :: st) σ Q := by
  subst hx; subst hy
  exact z_icmp_ge hd ht (fun hh => kt (Int32.le_iff_toInt_le.mp hh)) (fun hh => kf (by have := mt Int32.le_iff_toInt_le.mpr hh; omega))
theorem zq_lc_ge {x y : Int64} {cx cy : Int} {off : Int} {tgt : Nat} (hd0 : decode M.2.1 pc = .ok (.lcmp, 1)) (hd : decode M.2.1 (pc + 1) = .ok (.ifCond .ge off, 3)) (ht : ((pc + 1 : Nat) : Int) + off = (tgt : Int)) (hx : x.toInt = cx) (hy : y.toInt = cy) (kt : cy ≤ cx → Z l G M d tgt L st σ Q) (kf : cx < cy → Z l G M d (pc + 4) L st σ Q) : Z l G M d pc L (.long y :: .long x :: st) σ Q := by
  subst hx; subst hy
  exact z_lc_ge hd0 hd ht (fun hh => kt (Int64.le_iff_toInt_le.mp hh)) (fun hh => kf (by have := mt Int64.le_iff_toInt_le.mpr hh; omega))
theorem zq_if_gt {x : Int32} {cx : Int} {off : Int} {tgt : Nat} (hd : decode M.2.1 pc = .ok (.ifCond .gt off, 3)) (ht : (pc : Int) + off = (tgt : Int)) (hx : x.toInt = cx) (kt : 0 < cx → Z l G M d tgt L st σ Q) (kf : cx ≤ 0 → Z l G M d (pc + 3) L st σ Q) : Z l G M d pc L (.int x :: st) σ Q := by
  subst hx
  exact z_if_gt hd ht (fun hh => kt (by have := Int32.lt_iff_toInt_lt.mp hh; simpa using this)) (fun hh => kf (by have := mt Int32.lt_iff_toInt_lt.mpr hh; simp at this ⊢; omega))
theorem zq_icmp_gt {x y : Int32} {cx cy : Int} {off : Int} {tgt : Nat} (hd : decode M.2.1 pc = .ok (.if_icmp .gt off, 3)) (ht : (pc : Int) + off = (tgt : Int)) (hx : x.toInt = cx) (hy : y.toInt = cy) (kt : cy < cx → Z l G M d tgt L st σ Q) (kf : cx ≤ cy → Z l G M d (pc + 3) L st σ Q) : Z l G M d pc L (.int y :: .int x :: st) σ Q := by
  subst hx; subst hy
  exact z_icmp_gt hd ht (fun hh => kt (Int32.lt_iff_toInt_lt.mp hh)) (fun hh => kf (by have := mt Int32.lt_iff_toInt_lt.mpr hh; omega))
theorem zq_lc_gt {x y : Int64} {cx cy : Int} {off : Int} {tgt : Nat} (hd0 : decode M.2.1 pc = .ok (.lcmp, 1)) (hd : decode M.2.1 (pc + 1) = .ok (.ifCond .gt off, 3)) (ht : ((pc + 1 : Nat) : Int) + off = (tgt : Int)) (hx : x.toInt = cx) (hy : y.toInt = cy) (kt : cy < cx → Z l G M d tgt L st σ Q) (kf : cx ≤ cy → Z l G M d (pc + 4) L st σ Q) : Z l G M d pc L (.long y :: .long x :: st) σ Q := by
  subst hx; subst hy
  exact z_lc_gt hd0 hd ht (fun hh => kt (Int64.lt_iff_toInt_lt.mp hh)) (fun hh => kf (by have := mt Int64.lt_iff_toInt_lt.mpr hh; omega))
theorem zq_if_le {x : Int32} {cx : Int} {off : Int} {tgt : Nat} (hd : decode M.2.1 pc = .ok (.ifCond .le off, 3)) (ht : (pc : Int) + off = (tgt : Int)) (hx : x.toInt = cx) (kt : cx ≤ 0 → Z l G M d tgt L st σ Q) (kf : 0 < cx → Z l G M d (pc + 3) L st σ Q) : Z l G M d pc L (.int x :: st) σ Q := by
  subst hx
  exact z_if_le hd ht (fun hh => kt (by have := Int32.le_iff_toInt_le.mp hh; simpa using this)) (fun hh => kf (by have := mt Int32.le_iff_toInt_le.mpr hh; simp at this ⊢; omega))
theorem zq_icmp_le {x y : Int32} {cx cy : Int} {off : Int} {tgt : Nat} (hd : decode M.2.1 pc = .ok (.if_icmp .le off, 3)) (ht : (pc : Int) + off = (tgt : Int)) (hx : x.toInt = cx) (hy : y.toInt = cy) (kt : cx ≤ cy → Z l G M d tgt L st σ Q) (kf : cy < cx → Z l G M d (pc + 3) L st σ Q) : Z l G M d pc L (.int y :: .int x :: st) σ Q := by
  subst hx; subst hy
  exact z_icmp_le hd ht (fun hh => kt (Int32.le_iff_toInt_le.mp hh)) (fun hh => kf (by have := mt Int32.le_iff_toInt_le.mpr hh; omega))
theorem zq_lc_le {x y : Int64} {cx cy : Int} {off : Int} {tgt : Nat} (hd0 : decode M.2.1 pc = .ok (.lcmp, 1)) (hd : decode M.2.1 (pc + 1) = .ok (.ifCond .le off, 3)) (ht : ((pc + 1 : Nat) : Int) + off = (tgt : Int)) (hx : x.toInt = cx) (hy : y.toInt = cy) (kt : cx ≤ cy → Z l G M d tgt L st σ Q) (kf : cy < cx → Z l G M d (pc + 4) L st σ Q) : Z l G M d pc L (.long y :: .long x :: st) σ Q := by
  subst hx; subst hy
  exact z_lc_le hd0 hd ht (fun hh => kt (Int64.le_iff_toInt_le.mp hh)) (fun hh => kf (by have := mt Int64.le_iff_toInt_le.mpr hh; omega))
theorem zq_swOut {dflt lo hi : Int} {offs : Array Int} {len : Nat} {x : Int32} {tgt : Nat} (hd : decode M.2.1 pc = .ok (.tableswitch dflt lo hi offs, len)) (h : x.toInt < lo ∨ hi < x.toInt) (ht : (pc : Int) + dflt = (tgt : Int)) (k : Z l G M d tgt L st σ Q) : Z l G M d pc L (.int x :: st) σ Q := z_swOut hd h ht k
theorem zq_swIn {dflt lo hi : Int} {offs : Array Int} {len : Nat} {x : Int32} {c off : Int} {tgt : Nat} (hd : decode M.2.1 pc = .ok (.tableswitch dflt lo hi offs, len)) (hx : x.toInt = c) (h1 : lo ≤ c) (h2 : c ≤ hi) (ho : offs[(c - lo).toNat]? = some off) (ht : (pc : Int) + off = (tgt : Int)) (k : Z l G M d tgt L st σ Q) : Z l G M d pc L (.int x :: st) σ Q := z_swIn hd (by omega) (by omega) (by rw [hx]; exact ho) ht k
theorem z_ialdN {o : Nat} {i : Int32} (j : Nat) (hd : decode M.2.1 pc = .ok (.iaload, 1)) (ho : kd o = 12) (hn : o < 105) (hi : i.toInt = (j : Int)) (hj : j < ln o) (kk : Z l G M d (pc + 1) L (.int (σ.1 o j) :: st) σ Q) : Z l G M d pc L (.int i :: .ref o :: st) σ Q := z_iald hd ho hn (zin_of hi hj) (by rw [zclamp hi]; exact kk)
theorem z_zaldN {o : Nat} {i : Int32} (j : Nat) (hd : decode M.2.1 pc = .ok (.baload, 1)) (ho : kd o = 14) (hn : o < 105) (hi : i.toInt = (j : Int)) (hj : j < ln o) (kk : Z l G M d (pc + 1) L (.int (σ.1 o j) :: st) σ Q) : Z l G M d pc L (.int i :: .ref o :: st) σ Q := z_zald hd ho hn (zin_of hi hj) (by rw [zclamp hi]; exact kk)
theorem z_laldN {o : Nat} {i : Int32} (j : Nat) (hd : decode M.2.1 pc = .ok (.laload, 1)) (ho : kd o = 13) (hn : o < 105) (hi : i.toInt = (j : Int)) (hj : j < ln o) (kk : Z l G M d (pc + 1) L (.long (σ.2 o j) :: st) σ Q) : Z l G M d pc L (.int i :: .ref o :: st) σ Q := z_lald hd ho hn (zin_of hi hj) (by rw [zclamp hi]; exact kk)
theorem z_iastN {o : Nat} {i v : Int32} (j : Nat) (hd : decode M.2.1 pc = .ok (.iastore, 1)) (ho : kd o = 12) (hn : o < 105) (hi : i.toInt = (j : Int)) (hj : j < ln o) (kk : Z l G M d (pc + 1) L st (uI σ o j v) Q) : Z l G M d pc L (.int v :: .int i :: .ref o :: st) σ Q := z_iast hd ho hn (zin_of hi hj) (by rw [zclamp hi]; exact kk)
theorem z_zastN {o : Nat} {i v : Int32} (j : Nat) (hd : decode M.2.1 pc = .ok (.bastore, 1)) (ho : kd o = 14) (hn : o < 105) (hi : i.toInt = (j : Int)) (hj : j < ln o) (hv : v = 0 ∨ v = 1) (kk : Z l G M d (pc + 1) L st (uI σ o j v) Q) : Z l G M d pc L (.int v :: .int i :: .ref o :: st) σ Q := z_zast hd ho hn (zin_of hi hj) hv (by rw [zclamp hi]; exact kk)
theorem z_lastN {o : Nat} {i : Int32} {v : Int64} (j : Nat) (hd : decode M.2.1 pc = .ok (.lastore, 1)) (ho : kd o = 13) (hn : o < 105) (hi : i.toInt = (j : Int)) (hj : j < ln o) (kk : Z l G M d (pc + 1) L st (uJ σ o j v) Q) : Z l G M d pc L (.long v :: .int i :: .ref o :: st) σ Q := z_last hd ho hn (zin_of hi hj) (by rw [zclamp hi]; exact kk)
theorem z_aaldN {o t : Nat} {i : Int32} (j : Nat) (hd : decode M.2.1 pc = .ok (.aaload, 1)) (ho : kd o = 15 ∨ kd o = 16) (hn : o < 105) (hi : i.toInt = (j : Int)) (hj : j < ln o) (hr : rfo o j = t) (kk : Z l G M d (pc + 1) L (.ref t :: st) σ Q) : Z l G M d pc L (.int i :: .ref o :: st) σ Q := z_aald hd ho hn (zin_of hi hj) (by rw [zclamp hi]; exact hr) kk
theorem z_roaldN {o : Nat} {i : Int32} (j : Nat) (hd : decode M.2.1 pc = .ok (.iaload, 1)) (h1 : 105 ≤ o) (h2 : o < 108) (hi : i.toInt = (j : Int)) (hj : j < rol G o) (kk : Z l G M d (pc + 1) L (.int (roc G o j) :: st) σ Q) : Z l G M d pc L (.int i :: .ref o :: st) σ Q := z_roald hd h1 h2 (zin_of hi hj) (by rw [zclamp hi]; exact kk)
/-- the top of the stack gets a name -/
theorem z_top {v : Value} (k : ∀ w : Value, w = v → Z l G M d pc L (w :: st) σ Q) : Z l G M d pc L (v :: st) σ Q := k v rfl
theorem z_topi {v : Int32} (k : ∀ w : Int32, w = v → Z l G M d pc L (.int w :: st) σ Q) : Z l G M d pc L (.int v :: st) σ Q := k v rfl
theorem z_topl {v : Int64} (k : ∀ w : Int64, w = v → Z l G M d pc L (.long w :: st) σ Q) : Z l G M d pc L (.long v :: st) σ Q := k v rfl
theorem kd_plant {i : Nat} : kd (65 + i) = 6 := by
  unfold kd
  have : Nat.ble 65 (65 + i) = true := Nat.ble_eq_true_of_le (by omega)
  rw [this]
theorem kd_bed {b : Nat} (h : b < 8) : kd (49 + b) = 0 := by
  rcases (show b = 0 ∨ b = 1 ∨ b = 2 ∨ b = 3 ∨ b = 4 ∨ b = 5 ∨ b = 6 ∨ b = 7 by omega) with rfl | rfl | rfl | rfl | rfl | rfl | rfl | rfl <;> rfl
theorem kd_items {b : Nat} (h : b < 8) : kd (57 + b) = 13 := by
  rcases (show b = 0 ∨ b = 1 ∨ b = 2 ∨ b = 3 ∨ b = 4 ∨ b = 5 ∨ b = 6 ∨ b = 7 by omega) with rfl | rfl | rfl | rfl | rfl | rfl | rfl | rfl <;> rfl
theorem ln_items {b : Nat} (h : b < 8) : ln (57 + b) = 100 := by
  rcases (show b = 0 ∨ b = 1 ∨ b = 2 ∨ b = 3 ∨ b = 4 ∨ b = 5 ∨ b = 6 ∨ b = 7 by omega) with rfl | rfl | rfl | rfl | rfl | rfl | rfl | rfl <;> rfl
theorem rfo_bed {b : Nat} (h : b < 8) : rfo (49 + b) 0 = 57 + b := by
  rcases (show b = 0 ∨ b = 1 ∨ b = 2 ∨ b = 3 ∨ b = 4 ∨ b = 5 ∨ b = 6 ∨ b = 7 by omega) with rfl | rfl | rfl | rfl | rfl | rfl | rfl | rfl <;> rfl
end ZI
