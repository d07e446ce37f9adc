/-! the constructor of the class -/
theorem y_by {l : Launch} {D : va_G} {C : Nat → ClassId} {M : Mt} {d K N pc : Nat} {L : Lc} {st : List Value} {w w' : va_W} {k n : Nat} {Q : Yq} (g : Nat → Nat) (hg : ∀ (k : Nat) (q : Nat × va_E), w'[k]? = some q → w[g k]? = some q) (hi : ∀ i j : Nat, i < w'.length → j < w'.length → g i = g j → i = j) (kk : Y l D C M d K N pc L st w' k n Q) : Y l D C M d K N pc L st w k n Q := by
  intro p e R s m args below meth c H locs Qf ls A c0 hR hl
  exact kk p e R s m args below meth c H locs Qf ls A c0 ⟨hR.1.by g hg, hR.2.1.by g hg hi, hR.2.2⟩ hl
def bdsI (C : Nat → ClassId) (R : va_W) (f : Nat → Option Nat) (bd it : Nat → Nat) (i : Nat) : Prop := R.length = 2 * i ∧ ∀ j, j < i → f j = some (bd j) ∧ R[2 * j]? = some (bd j, .inr (0, [.ref (it j), .int 0, .int 0, .int 0])) ∧ R[2 * j + 1]? = some (it j, .inl (C 1, (100, .inr (.inl (fun _ => 0)))))
theorem bds_add {C : Nat → ClassId} {R : va_W} {f : Nat → Option Nat} {bd it : Nat → Nat} {i q t : Nat} (h : bdsI C R f bd it i) : bdsI C (R ++ [(q, .inr (0, [.ref t, .int 0, .int 0, .int 0])), (t, .inl (C 1, (100, .inr (.inl (fun _ => 0)))))]) (va_up f i (some q)) (va_up bd i q) (va_up it i t) (i + 1) := by
  refine ⟨by rw [List.length_append, h.1]; simp only [List.length_cons, List.length_nil]; omega, fun j hj => ?_⟩
  have hl := h.1
  rcases Nat.lt_or_ge j i with g | g
  · rw [va_up_ne _ _ (by omega), va_up_ne _ _ (by omega), va_up_ne _ _ (by omega), List.getElem?_append_left (by omega), List.getElem?_append_left (by omega)]
    exact h.2 j g
  · have e : j = i := by omega
    subst e
    rw [va_up_self, va_up_self, va_up_self, List.getElem?_append_right (by omega), List.getElem?_append_right (by omega), show 2 * j - R.length = 0 by omega, show 2 * j + 1 - R.length = 1 by omega]
    exact ⟨rfl, rfl, rfl⟩
def plsI (T : va_W) (g : Nat → Option Nat) (pl : Nat → Nat) (i : Nat) : Prop := T.length = i ∧ ∀ j, j < i → g j = some (pl j) ∧ T[j]? = some (pl j, .inr (6, [.int 0, .int 0, .int 0, .int 0, .int 0, .int 0, .int 0, .int 0]))
theorem pls_add {T : va_W} {g : Nat → Option Nat} {pl : Nat → Nat} {i q : Nat} (h : plsI T g pl i) : plsI (T ++ [(q, .inr (6, [.int 0, .int 0, .int 0, .int 0, .int 0, .int 0, .int 0, .int 0]))]) (va_up g i (some q)) (va_up pl i q) (i + 1) := by
  refine ⟨by rw [List.length_append, h.1]; rfl, fun j hj => ?_⟩
  have hl := h.1
  rcases Nat.lt_or_ge j i with z | z
  · rw [va_up_ne _ _ (by omega), va_up_ne _ _ (by omega), List.getElem?_append_left (by omega)]
    exact h.2 j z
  · have e : j = i := by omega
    subst e
    rw [va_up_self, va_up_self, List.getElem?_append_right (by omega), show j - T.length = 0 by omega]
    exact ⟨rfl, rfl⟩
theorem at_2 {a b x : Nat × va_E} {R X : va_W} : ((a :: b :: R) ++ (x :: X))[2 + R.length]? = some x := by
  rw [List.getElem?_append_right (by simp only [List.length_cons]; omega)]
  simp only [List.length_cons]
  rw [show 2 + R.length - (R.length + 1 + 1) = 0 by omega]
  rfl
theorem inc_1 {x : Int32} {i : Nat} (h : x.toInt = (i : Int)) (hi : i < 1000) : (x + Int32.ofInt 1).toInt = ((i + 1 : Nat) : Int) := by
  have e : (Int32.ofInt 1).toInt = 1 := rfl
  rw [t32_add (by omega) (by omega)]
  omega

set_option maxRecDepth 20000 in
theorem yl_beds {l : Launch} {D : va_G} {C : Nat → ClassId} {d K N : Nat} {Q : Yq} {h0 qb : Nat} (hK : 85 ≤ K) (hN : 4791 ≤ N) (hnext : ∀ (R : va_W) (f : Nat → Option Nat) (bd it : Nat → Nat), bdsI C R f bd it 8 → Y l D C M_X10_init (d + 3) K N 40 [some (.ref h0), none] [] ((h0, .inr (10, [.ref qb, .null, .null, .null, .null, .null, .null, .null, .null, .null, .null, .int 0, .int 0])) :: (qb, .inl (C 3, 8, .inr (.inr (.inr (.inr f))))) :: R) 17 840 Q) : ∀ (fu i : Nat) (x : Int32) (R : va_W) (f : Nat → Option Nat) (bd it : Nat → Nat) (k n : Nat), x.toInt = (i : Int) → i ≤ 8 → 8 - i < fu → bdsI C R f bd it i → k = 1 + 2 * i → n = 8 + 104 * i → Y l D C M_X10_init (d + 3) K N 15 [some (.ref h0), some (.int x)] [] ((h0, .inr (10, [.ref qb, .null, .null, .null, .null, .null, .null, .null, .null, .null, .null, .int 0, .int 0])) :: (qb, .inl (C 3, 8, .inr (.inr (.inr (.inr f))))) :: R) k n Q := by
  intro fu
  induction fu with
  | zero => intro i x R f bd it k n hx hi hfu hb hk hn; omega
  | succ fu ih =>
  intro i x R f bd it k n hx hi hfu hb hk hn
  refine y_iload_n (pc := 15) dX10_init_15 rfl ?_
  refine y_bipush (pc := 16) (v := 8) dX10_init_16 (by decide) ?_
  refine y_icmp_ge (pc := 18) (tgt := 40) dX10_init_18 rfl (fun hc => ?_) (fun hc => ?_)
  · have h8 : (8 : Int32).toInt = 8 := rfl
    rw [Int32.le_iff_toInt_le] at hc
    have e : i = 8 := by omega
    subst e hk hn
    refine y_sub (L' := [some _, none]) ⟨rfl, trivial⟩ ?_
    exact hnext R f bd it hb
  · have h8 : (8 : Int32).toInt = 8 := rfl
    rw [Int32.le_iff_toInt_le] at hc
    refine y_aload_n (pc := 21) dX10_init_21 rfl ?_
    refine y_get (pc := 22) (q0 := 0) dX10_init_22 fk_X10_11 (by decide) rfl rfl ?_
    refine y_iload_n (pc := 25) dX10_init_25 rfl ?_
    refine y_new (pc := 26) dX10_init_26 nw_X10_9 (by omega) (by show n + 4 ≤ N; omega) (fun q => ?_)
    refine y_dup (pc := 29) dX10_init_29 rfl ?_
    refine y_init (pc := 30) (K' := 1) (N' := 100) [] dX10_init_30 ci_X10_15 rfl (Nat.le_of_ble_eq_true rfl) rfl (by omega) (by show n + 4 + 100 ≤ N; omega) ?_
    refine yc_X0 (by decide) (by decide) (fun t => ⟨dX0_init_12, rfl, by decide, by decide, ?_⟩)
    refine y_ast (pc := 33) (q0 := 1) (t0 := 3) (qk := 2 + R.length) (ci := 0) (r := (RX0, TX0, 4)) (j := i) dX10_init_33 rfl rfl at_2 rfl hx (by omega) ?_
    refine y_iinc (pc := 34) (v := x + Int32.ofInt 1) dX10_init_34 rfl rfl rfl rfl rfl ?_
    refine y_goto (pc := 37) (tgt := 15) dX10_init_37 rfl ?_
    exact ih (i + 1) _ _ _ _ _ _ _ (inc_1 hx (by omega)) (by omega) (by omega) (bds_add hb) (by omega) (by show n + 4 + 100 = _; omega)

set_option maxRecDepth 20000 in
theorem yl_plants {l : Launch} {D : va_G} {C : Nat → ClassId} {d K N : Nat} {Q : Yq} {h0 qb qp : Nat} {S : va_W} (hK : 85 ≤ K) (hN : 4791 ≤ N) (hnext : ∀ (T : va_W) (g : Nat → Option Nat) (pl : Nat → Nat), plsI T g pl 40 → Y l D C M_X10_init (d + 3) K N 76 [some (.ref h0), none] [] ((h0, .inr (10, [.ref qb, .ref qp, .null, .null, .null, .null, .null, .null, .null, .null, .null, .int 0, .int 0])) :: (qp, .inl (C 4, 40, .inr (.inr (.inr (.inr g))))) :: (S ++ T)) 58 1200 Q) : ∀ (fu i : Nat) (x : Int32) (T : va_W) (g : Nat → Option Nat) (pl : Nat → Nat) (k n : Nat), x.toInt = (i : Int) → i ≤ 40 → 40 - i < fu → plsI T g pl i → k = 18 + i → n = 880 + 8 * i → Y l D C M_X10_init (d + 3) K N 51 [some (.ref h0), some (.int x)] [] ((h0, .inr (10, [.ref qb, .ref qp, .null, .null, .null, .null, .null, .null, .null, .null, .null, .int 0, .int 0])) :: (qp, .inl (C 4, 40, .inr (.inr (.inr (.inr g))))) :: (S ++ T)) k n Q := by
  intro fu
  induction fu with
  | zero => intro i x T g pl k n hx hi hfu hb hk hn; omega
  | succ fu ih =>
  intro i x T g pl k n hx hi hfu hb hk hn
  refine y_iload_n (pc := 51) dX10_init_51 rfl ?_
  refine y_bipush (pc := 52) (v := 40) dX10_init_52 (by decide) ?_
  refine y_icmp_ge (pc := 54) (tgt := 76) dX10_init_54 rfl (fun hc => ?_) (fun hc => ?_)
  · have h8 : (40 : Int32).toInt = 40 := rfl
    rw [Int32.le_iff_toInt_le] at hc
    have e : i = 40 := by omega
    subst e hk hn
    refine y_sub (L' := [some _, none]) ⟨rfl, trivial⟩ ?_
    exact hnext T g pl hb
  · have h8 : (40 : Int32).toInt = 40 := rfl
    rw [Int32.le_iff_toInt_le] at hc
    refine y_aload_n (pc := 57) dX10_init_57 rfl ?_
    refine y_get (pc := 58) (q0 := 0) dX10_init_58 fk_X10_18 (by decide) rfl rfl ?_
    refine y_iload_n (pc := 61) dX10_init_61 rfl ?_
    refine y_new (pc := 62) dX10_init_62 nw_X10_16 (by omega) (by show n + 8 ≤ N; omega) (fun q => ?_)
    refine y_dup (pc := 65) dX10_init_65 rfl ?_
    refine y_init (pc := 66) (K' := 0) (N' := 0) [] dX10_init_66 ci_X10_22 rfl (Nat.le_of_ble_eq_true rfl) rfl (by omega) (by show n + 8 + 0 ≤ N; omega) ?_
    refine yc_X6 (by decide) (by decide) (fun _ => ⟨dX6_init_4, rfl, by decide, by decide, ?_⟩)
    refine y_ast (pc := 69) (q0 := 1) (t0 := 4) (qk := 2 + (S ++ T).length) (ci := 6) (r := (RX6, TX6, 8)) (j := i) dX10_init_69 rfl rfl at_2 rfl hx (by omega) ?_
    refine y_world (w' := (h0, .inr (10, [.ref qb, .ref qp, .null, .null, .null, .null, .null, .null, .null, .null, .null, .int 0, .int 0])) :: (qp, .inl (C 4, 40, .inr (.inr (.inr (.inr (va_up g i (some q))))))) :: (S ++ (T ++ [(q, .inr (6, [.int 0, .int 0, .int 0, .int 0, .int 0, .int 0, .int 0, .int 0]))]))) (by rw [← List.append_assoc]; rfl) ?_
    refine y_iinc (pc := 70) (v := x + Int32.ofInt 1) dX10_init_70 rfl rfl rfl rfl rfl ?_
    refine y_goto (pc := 73) (tgt := 51) dX10_init_73 rfl ?_
    exact ih (i + 1) _ _ _ _ _ _ (inc_1 hx (by omega)) (by omega) (by omega) (pls_add hb) (by omega) (by show n + 8 + 0 = _; omega)

set_option maxRecDepth 20000 in
theorem yc_X10_c {l : Launch} {D : va_G} {C : Nat → ClassId} {d K N : Nat} {Q : Yq} {h0 qb qp : Nat} {W : va_W} (hK : 85 ≤ K) (hN : 4791 ≤ N) (h : ∀ q1 q2 q3 q4 q5 q6 q7 q8 q9 q10 q11 q12 q13 q14 q15 q16 q17 q18 q19 q20 q21 q22 q23 q24 q25 q26 q27 : Nat, Q 178 [some (.ref h0), none] [] ((h0, .inr (10, [.ref qb, .ref qp, .ref q1, .ref q3, .ref q5, .ref q7, .ref q8, .ref q15, .ref q21, .ref q23, .ref q26, .int 0, .int 0])) :: (W ++ [(q1, .inr (1, [.ref q2, .int 0, .int 0, .int 0])), (q2, .inr (6, [.int 0, .int 0, .int 0, .int 0, .int 0, .int 0, .int 0, .int 0])), (q3, .inr (9, [.ref q4, .int 0])), (q4, .inl (C 0, (16, .inl (fun _ => 0)))), (q5, .inr (9, [.ref q6, .int 0])), (q6, .inl (C 0, (0, .inl (fun _ => 0)))), (q7, .inr (4, [.int (0), .int (1), .int (0)])), (q8, .inr (7, [.ref q9, .ref q10, .ref q11, .ref q12, .ref q13, .ref q14, .int 0, .int 0])), (q9, .inl (C 0, (40, .inl (fun _ => 0)))), (q10, .inl (C 0, (40, .inl (fun _ => 0)))), (q11, .inl (C 0, (40, .inl (fun _ => 0)))), (q12, .inl (C 0, (40, .inl (fun _ => 0)))), (q13, .inl (C 0, (40, .inl (fun _ => 0)))), (q14, .inl (C 0, (40, .inl (fun _ => 0)))), (q15, .inr (5, [.ref q16, .ref q17, .ref q18, .ref q19, .ref q20, .int 0, .int 0, .int 0, .int 0, .int 0, .int 0])), (q16, .inl (C 0, (780, .inl (fun _ => 0)))), (q17, .inl (C 0, (780, .inl (fun _ => 0)))), (q18, .inl (C 0, (780, .inl (fun _ => 0)))), (q19, .inl (C 0, (780, .inl (fun _ => 0)))), (q20, .inr (4, [.int (0), .int (1), .int (0)])), (q21, .inr (3, [.ref q22, .int 0, .int 0])), (q22, .inl (C 0, (40, .inl (fun _ => 0)))), (q23, .inr (2, [.ref q24, .ref q25, .int 0, .int 0, .long 0, .long 0, .long 0])), (q24, .inl (C 1, (40, .inr (.inl (fun _ => 0))))), (q25, .inl (C 1, (40, .inr (.inl (fun _ => 0))))), (q26, .inr (8, [.ref q27, .int 0, .long 0, .long 0])), (q27, .inl (C 0, (40, .inl (fun _ => 0))))])) 85 4791) : Y l D C M_X10_init (d + 3) K N 76 [some (.ref h0), none] [] ((h0, .inr (10, [.ref qb, .ref qp, .null, .null, .null, .null, .null, .null, .null, .null, .null, .int 0, .int 0])) :: W) 58 1200 Q := by
  refine y_world (w' := (h0, .inr (10, [.ref qb, .ref qp, .null, .null, .null, .null, .null, .null, .null, .null, .null, .int 0, .int 0])) :: (W ++ [])) (by rw [List.append_nil]) ?_
  refine y_aload_n (pc := 76) dX10_init_76 rfl ?_
  refine y_new (pc := 77) dX10_init_77 nw_X10_23 (by show 59 ≤ K; omega) (by show 1204 ≤ N; omega) (fun q1 => ?_)
  refine y_dup (pc := 80) dX10_init_80 rfl ?_
  refine y_init (pc := 81) (K' := 1) (N' := 8) [] dX10_init_81 ci_X10_25 rfl (Nat.le_of_ble_eq_true rfl) rfl (by show 60 ≤ K; omega) (by show 1212 ≤ N; omega) ?_
  refine yc_X1 (by decide) (by decide) (fun q2 => ⟨dX1_init_15, rfl, by decide, by decide, ?_⟩)
  refine y_world (w' := (h0, .inr (10, [.ref qb, .ref qp, .null, .null, .null, .null, .null, .null, .null, .null, .null, .int 0, .int 0])) :: (W ++ [(q1, .inr (1, [.ref q2, .int 0, .int 0, .int 0])), (q2, .inr (6, [.int 0, .int 0, .int 0, .int 0, .int 0, .int 0, .int 0, .int 0]))])) (by simp only [List.cons_append, List.append_assoc, List.nil_append]) ?_
  refine y_putF (pc := 84) (q0 := 0) dX10_init_84 ff_X10_26 rfl rfl (Nat.le_of_ble_eq_true rfl) ?_
  refine y_world (w' := (h0, .inr (10, [.ref qb, .ref qp, .ref q1, .null, .null, .null, .null, .null, .null, .null, .null, .int 0, .int 0])) :: (W ++ [(q1, .inr (1, [.ref q2, .int 0, .int 0, .int 0])), (q2, .inr (6, [.int 0, .int 0, .int 0, .int 0, .int 0, .int 0, .int 0, .int 0]))])) rfl ?_
  refine y_aload_n (pc := 87) dX10_init_87 rfl ?_
  refine y_new (pc := 88) dX10_init_88 nw_X10_30 (by show 61 ≤ K; omega) (by show 1214 ≤ N; omega) (fun q3 => ?_)
  refine y_dup (pc := 91) dX10_init_91 rfl ?_
  refine y_bipush (pc := 92) (v := 16) dX10_init_92 (by decide) ?_
  refine y_init (pc := 94) (K' := 1) (N' := 16) [.int 16] dX10_init_94 ci_X10_32 rfl (Nat.le_of_ble_eq_true rfl) rfl (by show 62 ≤ K; omega) (by show 1230 ≤ N; omega) ?_
  refine yc_X9a (by decide) (by decide) (fun q4 => ⟨dX9_init_19, rfl, by decide, by decide, ?_⟩)
  refine y_world (w' := (h0, .inr (10, [.ref qb, .ref qp, .ref q1, .null, .null, .null, .null, .null, .null, .null, .null, .int 0, .int 0])) :: (W ++ [(q1, .inr (1, [.ref q2, .int 0, .int 0, .int 0])), (q2, .inr (6, [.int 0, .int 0, .int 0, .int 0, .int 0, .int 0, .int 0, .int 0])), (q3, .inr (9, [.ref q4, .int 0])), (q4, .inl (C 0, (16, .inl (fun _ => 0))))])) (by simp only [List.cons_append, List.append_assoc, List.nil_append]) ?_
  refine y_putF (pc := 97) (q0 := 0) dX10_init_97 ff_X10_35 rfl rfl (Nat.le_of_ble_eq_true rfl) ?_
  refine y_world (w' := (h0, .inr (10, [.ref qb, .ref qp, .ref q1, .ref q3, .null, .null, .null, .null, .null, .null, .null, .int 0, .int 0])) :: (W ++ [(q1, .inr (1, [.ref q2, .int 0, .int 0, .int 0])), (q2, .inr (6, [.int 0, .int 0, .int 0, .int 0, .int 0, .int 0, .int 0, .int 0])), (q3, .inr (9, [.ref q4, .int 0])), (q4, .inl (C 0, (16, .inl (fun _ => 0))))])) rfl ?_
  refine y_aload_n (pc := 100) dX10_init_100 rfl ?_
  refine y_new (pc := 101) dX10_init_101 nw_X10_30 (by show 63 ≤ K; omega) (by show 1232 ≤ N; omega) (fun q5 => ?_)
  refine y_dup (pc := 104) dX10_init_104 rfl ?_
  refine y_iconst (pc := 105) (v := 0) dX10_init_105 (by decide) ?_
  refine y_init (pc := 106) (K' := 1) (N' := 0) [.int 0] dX10_init_106 ci_X10_32 rfl (Nat.le_of_ble_eq_true rfl) rfl (by show 64 ≤ K; omega) (by show 1232 ≤ N; omega) ?_
  refine yc_X9b (by decide) (by decide) (fun q6 => ⟨dX9_init_19, rfl, by decide, by decide, ?_⟩)
  refine y_world (w' := (h0, .inr (10, [.ref qb, .ref qp, .ref q1, .ref q3, .null, .null, .null, .null, .null, .null, .null, .int 0, .int 0])) :: (W ++ [(q1, .inr (1, [.ref q2, .int 0, .int 0, .int 0])), (q2, .inr (6, [.int 0, .int 0, .int 0, .int 0, .int 0, .int 0, .int 0, .int 0])), (q3, .inr (9, [.ref q4, .int 0])), (q4, .inl (C 0, (16, .inl (fun _ => 0)))), (q5, .inr (9, [.ref q6, .int 0])), (q6, .inl (C 0, (0, .inl (fun _ => 0))))])) (by simp only [List.cons_append, List.append_assoc, List.nil_append]) ?_
  refine y_putF (pc := 109) (q0 := 0) dX10_init_109 ff_X10_39 rfl rfl (Nat.le_of_ble_eq_true rfl) ?_
  refine y_world (w' := (h0, .inr (10, [.ref qb, .ref qp, .ref q1, .ref q3, .ref q5, .null, .null, .null, .null, .null, .null, .int 0, .int 0])) :: (W ++ [(q1, .inr (1, [.ref q2, .int 0, .int 0, .int 0])), (q2, .inr (6, [.int 0, .int 0, .int 0, .int 0, .int 0, .int 0, .int 0, .int 0])), (q3, .inr (9, [.ref q4, .int 0])), (q4, .inl (C 0, (16, .inl (fun _ => 0)))), (q5, .inr (9, [.ref q6, .int 0])), (q6, .inl (C 0, (0, .inl (fun _ => 0))))])) rfl ?_
  refine y_aload_n (pc := 112) dX10_init_112 rfl ?_
  refine y_new (pc := 113) dX10_init_113 nw_X10_42 (by show 65 ≤ K; omega) (by show 1235 ≤ N; omega) (fun q7 => ?_)
  refine y_dup (pc := 116) dX10_init_116 rfl ?_
  refine y_init (pc := 117) (K' := 0) (N' := 0) [] dX10_init_117 ci_X10_44 rfl (Nat.le_of_ble_eq_true rfl) rfl (by show 65 ≤ K; omega) (by show 1235 ≤ N; omega) ?_
  refine yc_X4 (by decide) (by decide) (fun _ => ⟨dX4_init_19, rfl, by decide, by decide, ?_⟩)
  refine y_world (w' := (h0, .inr (10, [.ref qb, .ref qp, .ref q1, .ref q3, .ref q5, .null, .null, .null, .null, .null, .null, .int 0, .int 0])) :: (W ++ [(q1, .inr (1, [.ref q2, .int 0, .int 0, .int 0])), (q2, .inr (6, [.int 0, .int 0, .int 0, .int 0, .int 0, .int 0, .int 0, .int 0])), (q3, .inr (9, [.ref q4, .int 0])), (q4, .inl (C 0, (16, .inl (fun _ => 0)))), (q5, .inr (9, [.ref q6, .int 0])), (q6, .inl (C 0, (0, .inl (fun _ => 0)))), (q7, .inr (4, [.int (0), .int (1), .int (0)]))])) (by simp only [List.cons_append, List.append_assoc, List.nil_append]) ?_
  refine y_putF (pc := 120) (q0 := 0) dX10_init_120 ff_X10_45 rfl rfl (Nat.le_of_ble_eq_true rfl) ?_
  refine y_world (w' := (h0, .inr (10, [.ref qb, .ref qp, .ref q1, .ref q3, .ref q5, .ref q7, .null, .null, .null, .null, .null, .int 0, .int 0])) :: (W ++ [(q1, .inr (1, [.ref q2, .int 0, .int 0, .int 0])), (q2, .inr (6, [.int 0, .int 0, .int 0, .int 0, .int 0, .int 0, .int 0, .int 0])), (q3, .inr (9, [.ref q4, .int 0])), (q4, .inl (C 0, (16, .inl (fun _ => 0)))), (q5, .inr (9, [.ref q6, .int 0])), (q6, .inl (C 0, (0, .inl (fun _ => 0)))), (q7, .inr (4, [.int (0), .int (1), .int (0)]))])) rfl ?_
  refine y_aload_n (pc := 123) dX10_init_123 rfl ?_
  refine y_new (pc := 124) dX10_init_124 nw_X10_49 (by show 66 ≤ K; omega) (by show 1243 ≤ N; omega) (fun q8 => ?_)
  refine y_dup (pc := 127) dX10_init_127 rfl ?_
  refine y_init (pc := 128) (K' := 6) (N' := 240) [] dX10_init_128 ci_X10_51 rfl (Nat.le_of_ble_eq_true rfl) rfl (by show 72 ≤ K; omega) (by show 1483 ≤ N; omega) ?_
  refine yc_X7 (by decide) (by decide) (fun q9 q10 q11 q12 q13 q14 => ⟨dX7_init_52, rfl, by decide, by decide, ?_⟩)
  refine y_world (w' := (h0, .inr (10, [.ref qb, .ref qp, .ref q1, .ref q3, .ref q5, .ref q7, .null, .null, .null, .null, .null, .int 0, .int 0])) :: (W ++ [(q1, .inr (1, [.ref q2, .int 0, .int 0, .int 0])), (q2, .inr (6, [.int 0, .int 0, .int 0, .int 0, .int 0, .int 0, .int 0, .int 0])), (q3, .inr (9, [.ref q4, .int 0])), (q4, .inl (C 0, (16, .inl (fun _ => 0)))), (q5, .inr (9, [.ref q6, .int 0])), (q6, .inl (C 0, (0, .inl (fun _ => 0)))), (q7, .inr (4, [.int (0), .int (1), .int (0)])), (q8, .inr (7, [.ref q9, .ref q10, .ref q11, .ref q12, .ref q13, .ref q14, .int 0, .int 0])), (q9, .inl (C 0, (40, .inl (fun _ => 0)))), (q10, .inl (C 0, (40, .inl (fun _ => 0)))), (q11, .inl (C 0, (40, .inl (fun _ => 0)))), (q12, .inl (C 0, (40, .inl (fun _ => 0)))), (q13, .inl (C 0, (40, .inl (fun _ => 0)))), (q14, .inl (C 0, (40, .inl (fun _ => 0))))])) (by simp only [List.cons_append, List.append_assoc, List.nil_append]) ?_
  refine y_putF (pc := 131) (q0 := 0) dX10_init_131 ff_X10_52 rfl rfl (Nat.le_of_ble_eq_true rfl) ?_
  refine y_world (w' := (h0, .inr (10, [.ref qb, .ref qp, .ref q1, .ref q3, .ref q5, .ref q7, .ref q8, .null, .null, .null, .null, .int 0, .int 0])) :: (W ++ [(q1, .inr (1, [.ref q2, .int 0, .int 0, .int 0])), (q2, .inr (6, [.int 0, .int 0, .int 0, .int 0, .int 0, .int 0, .int 0, .int 0])), (q3, .inr (9, [.ref q4, .int 0])), (q4, .inl (C 0, (16, .inl (fun _ => 0)))), (q5, .inr (9, [.ref q6, .int 0])), (q6, .inl (C 0, (0, .inl (fun _ => 0)))), (q7, .inr (4, [.int (0), .int (1), .int (0)])), (q8, .inr (7, [.ref q9, .ref q10, .ref q11, .ref q12, .ref q13, .ref q14, .int 0, .int 0])), (q9, .inl (C 0, (40, .inl (fun _ => 0)))), (q10, .inl (C 0, (40, .inl (fun _ => 0)))), (q11, .inl (C 0, (40, .inl (fun _ => 0)))), (q12, .inl (C 0, (40, .inl (fun _ => 0)))), (q13, .inl (C 0, (40, .inl (fun _ => 0)))), (q14, .inl (C 0, (40, .inl (fun _ => 0))))])) rfl ?_
  refine y_aload_n (pc := 134) dX10_init_134 rfl ?_
  refine y_new (pc := 135) dX10_init_135 nw_X10_56 (by show 73 ≤ K; omega) (by show 1494 ≤ N; omega) (fun q15 => ?_)
  refine y_dup (pc := 138) dX10_init_138 rfl ?_
  refine y_init (pc := 139) (K' := 5) (N' := 3123) [] dX10_init_139 ci_X10_58 rfl (Nat.le_of_ble_eq_true rfl) rfl (by show 78 ≤ K; omega) (by show 4617 ≤ N; omega) ?_
  refine yc_X5 (by decide) (by decide) (fun q16 q17 q18 q19 q20 => ⟨dX5_init_51, rfl, by decide, by decide, ?_⟩)
  refine y_world (w' := (h0, .inr (10, [.ref qb, .ref qp, .ref q1, .ref q3, .ref q5, .ref q7, .ref q8, .null, .null, .null, .null, .int 0, .int 0])) :: (W ++ [(q1, .inr (1, [.ref q2, .int 0, .int 0, .int 0])), (q2, .inr (6, [.int 0, .int 0, .int 0, .int 0, .int 0, .int 0, .int 0, .int 0])), (q3, .inr (9, [.ref q4, .int 0])), (q4, .inl (C 0, (16, .inl (fun _ => 0)))), (q5, .inr (9, [.ref q6, .int 0])), (q6, .inl (C 0, (0, .inl (fun _ => 0)))), (q7, .inr (4, [.int (0), .int (1), .int (0)])), (q8, .inr (7, [.ref q9, .ref q10, .ref q11, .ref q12, .ref q13, .ref q14, .int 0, .int 0])), (q9, .inl (C 0, (40, .inl (fun _ => 0)))), (q10, .inl (C 0, (40, .inl (fun _ => 0)))), (q11, .inl (C 0, (40, .inl (fun _ => 0)))), (q12, .inl (C 0, (40, .inl (fun _ => 0)))), (q13, .inl (C 0, (40, .inl (fun _ => 0)))), (q14, .inl (C 0, (40, .inl (fun _ => 0)))), (q15, .inr (5, [.ref q16, .ref q17, .ref q18, .ref q19, .ref q20, .int 0, .int 0, .int 0, .int 0, .int 0, .int 0])), (q16, .inl (C 0, (780, .inl (fun _ => 0)))), (q17, .inl (C 0, (780, .inl (fun _ => 0)))), (q18, .inl (C 0, (780, .inl (fun _ => 0)))), (q19, .inl (C 0, (780, .inl (fun _ => 0)))), (q20, .inr (4, [.int (0), .int (1), .int (0)]))])) (by simp only [List.cons_append, List.append_assoc, List.nil_append]) ?_
  refine y_putF (pc := 142) (q0 := 0) dX10_init_142 ff_X10_59 rfl rfl (Nat.le_of_ble_eq_true rfl) ?_
  refine y_world (w' := (h0, .inr (10, [.ref qb, .ref qp, .ref q1, .ref q3, .ref q5, .ref q7, .ref q8, .ref q15, .null, .null, .null, .int 0, .int 0])) :: (W ++ [(q1, .inr (1, [.ref q2, .int 0, .int 0, .int 0])), (q2, .inr (6, [.int 0, .int 0, .int 0, .int 0, .int 0, .int 0, .int 0, .int 0])), (q3, .inr (9, [.ref q4, .int 0])), (q4, .inl (C 0, (16, .inl (fun _ => 0)))), (q5, .inr (9, [.ref q6, .int 0])), (q6, .inl (C 0, (0, .inl (fun _ => 0)))), (q7, .inr (4, [.int (0), .int (1), .int (0)])), (q8, .inr (7, [.ref q9, .ref q10, .ref q11, .ref q12, .ref q13, .ref q14, .int 0, .int 0])), (q9, .inl (C 0, (40, .inl (fun _ => 0)))), (q10, .inl (C 0, (40, .inl (fun _ => 0)))), (q11, .inl (C 0, (40, .inl (fun _ => 0)))), (q12, .inl (C 0, (40, .inl (fun _ => 0)))), (q13, .inl (C 0, (40, .inl (fun _ => 0)))), (q14, .inl (C 0, (40, .inl (fun _ => 0)))), (q15, .inr (5, [.ref q16, .ref q17, .ref q18, .ref q19, .ref q20, .int 0, .int 0, .int 0, .int 0, .int 0, .int 0])), (q16, .inl (C 0, (780, .inl (fun _ => 0)))), (q17, .inl (C 0, (780, .inl (fun _ => 0)))), (q18, .inl (C 0, (780, .inl (fun _ => 0)))), (q19, .inl (C 0, (780, .inl (fun _ => 0)))), (q20, .inr (4, [.int (0), .int (1), .int (0)]))])) rfl ?_
  refine y_aload_n (pc := 145) dX10_init_145 rfl ?_
  refine y_new (pc := 146) dX10_init_146 nw_X10_63 (by show 79 ≤ K; omega) (by show 4620 ≤ N; omega) (fun q21 => ?_)
  refine y_dup (pc := 149) dX10_init_149 rfl ?_
  refine y_init (pc := 150) (K' := 1) (N' := 40) [] dX10_init_150 ci_X10_65 rfl (Nat.le_of_ble_eq_true rfl) rfl (by show 80 ≤ K; omega) (by show 4660 ≤ N; omega) ?_
  refine yc_X3 (by decide) (by decide) (fun q22 => ⟨dX3_init_12, rfl, by decide, by decide, ?_⟩)
  refine y_world (w' := (h0, .inr (10, [.ref qb, .ref qp, .ref q1, .ref q3, .ref q5, .ref q7, .ref q8, .ref q15, .null, .null, .null, .int 0, .int 0])) :: (W ++ [(q1, .inr (1, [.ref q2, .int 0, .int 0, .int 0])), (q2, .inr (6, [.int 0, .int 0, .int 0, .int 0, .int 0, .int 0, .int 0, .int 0])), (q3, .inr (9, [.ref q4, .int 0])), (q4, .inl (C 0, (16, .inl (fun _ => 0)))), (q5, .inr (9, [.ref q6, .int 0])), (q6, .inl (C 0, (0, .inl (fun _ => 0)))), (q7, .inr (4, [.int (0), .int (1), .int (0)])), (q8, .inr (7, [.ref q9, .ref q10, .ref q11, .ref q12, .ref q13, .ref q14, .int 0, .int 0])), (q9, .inl (C 0, (40, .inl (fun _ => 0)))), (q10, .inl (C 0, (40, .inl (fun _ => 0)))), (q11, .inl (C 0, (40, .inl (fun _ => 0)))), (q12, .inl (C 0, (40, .inl (fun _ => 0)))), (q13, .inl (C 0, (40, .inl (fun _ => 0)))), (q14, .inl (C 0, (40, .inl (fun _ => 0)))), (q15, .inr (5, [.ref q16, .ref q17, .ref q18, .ref q19, .ref q20, .int 0, .int 0, .int 0, .int 0, .int 0, .int 0])), (q16, .inl (C 0, (780, .inl (fun _ => 0)))), (q17, .inl (C 0, (780, .inl (fun _ => 0)))), (q18, .inl (C 0, (780, .inl (fun _ => 0)))), (q19, .inl (C 0, (780, .inl (fun _ => 0)))), (q20, .inr (4, [.int (0), .int (1), .int (0)])), (q21, .inr (3, [.ref q22, .int 0, .int 0])), (q22, .inl (C 0, (40, .inl (fun _ => 0))))])) (by simp only [List.cons_append, List.append_assoc, List.nil_append]) ?_
  refine y_putF (pc := 153) (q0 := 0) dX10_init_153 ff_X10_66 rfl rfl (Nat.le_of_ble_eq_true rfl) ?_
  refine y_world (w' := (h0, .inr (10, [.ref qb, .ref qp, .ref q1, .ref q3, .ref q5, .ref q7, .ref q8, .ref q15, .ref q21, .null, .null, .int 0, .int 0])) :: (W ++ [(q1, .inr (1, [.ref q2, .int 0, .int 0, .int 0])), (q2, .inr (6, [.int 0, .int 0, .int 0, .int 0, .int 0, .int 0, .int 0, .int 0])), (q3, .inr (9, [.ref q4, .int 0])), (q4, .inl (C 0, (16, .inl (fun _ => 0)))), (q5, .inr (9, [.ref q6, .int 0])), (q6, .inl (C 0, (0, .inl (fun _ => 0)))), (q7, .inr (4, [.int (0), .int (1), .int (0)])), (q8, .inr (7, [.ref q9, .ref q10, .ref q11, .ref q12, .ref q13, .ref q14, .int 0, .int 0])), (q9, .inl (C 0, (40, .inl (fun _ => 0)))), (q10, .inl (C 0, (40, .inl (fun _ => 0)))), (q11, .inl (C 0, (40, .inl (fun _ => 0)))), (q12, .inl (C 0, (40, .inl (fun _ => 0)))), (q13, .inl (C 0, (40, .inl (fun _ => 0)))), (q14, .inl (C 0, (40, .inl (fun _ => 0)))), (q15, .inr (5, [.ref q16, .ref q17, .ref q18, .ref q19, .ref q20, .int 0, .int 0, .int 0, .int 0, .int 0, .int 0])), (q16, .inl (C 0, (780, .inl (fun _ => 0)))), (q17, .inl (C 0, (780, .inl (fun _ => 0)))), (q18, .inl (C 0, (780, .inl (fun _ => 0)))), (q19, .inl (C 0, (780, .inl (fun _ => 0)))), (q20, .inr (4, [.int (0), .int (1), .int (0)])), (q21, .inr (3, [.ref q22, .int 0, .int 0])), (q22, .inl (C 0, (40, .inl (fun _ => 0))))])) rfl ?_
  refine y_aload_n (pc := 156) dX10_init_156 rfl ?_
  refine y_new (pc := 157) dX10_init_157 nw_X10_70 (by show 81 ≤ K; omega) (by show 4667 ≤ N; omega) (fun q23 => ?_)
  refine y_dup (pc := 160) dX10_init_160 rfl ?_
  refine y_init (pc := 161) (K' := 2) (N' := 80) [] dX10_init_161 ci_X10_72 rfl (Nat.le_of_ble_eq_true rfl) rfl (by show 83 ≤ K; omega) (by show 4747 ≤ N; omega) ?_
  refine yc_X2 (by decide) (by decide) (fun q24 q25 => ⟨dX2_init_20, rfl, by decide, by decide, ?_⟩)
  refine y_world (w' := (h0, .inr (10, [.ref qb, .ref qp, .ref q1, .ref q3, .ref q5, .ref q7, .ref q8, .ref q15, .ref q21, .null, .null, .int 0, .int 0])) :: (W ++ [(q1, .inr (1, [.ref q2, .int 0, .int 0, .int 0])), (q2, .inr (6, [.int 0, .int 0, .int 0, .int 0, .int 0, .int 0, .int 0, .int 0])), (q3, .inr (9, [.ref q4, .int 0])), (q4, .inl (C 0, (16, .inl (fun _ => 0)))), (q5, .inr (9, [.ref q6, .int 0])), (q6, .inl (C 0, (0, .inl (fun _ => 0)))), (q7, .inr (4, [.int (0), .int (1), .int (0)])), (q8, .inr (7, [.ref q9, .ref q10, .ref q11, .ref q12, .ref q13, .ref q14, .int 0, .int 0])), (q9, .inl (C 0, (40, .inl (fun _ => 0)))), (q10, .inl (C 0, (40, .inl (fun _ => 0)))), (q11, .inl (C 0, (40, .inl (fun _ => 0)))), (q12, .inl (C 0, (40, .inl (fun _ => 0)))), (q13, .inl (C 0, (40, .inl (fun _ => 0)))), (q14, .inl (C 0, (40, .inl (fun _ => 0)))), (q15, .inr (5, [.ref q16, .ref q17, .ref q18, .ref q19, .ref q20, .int 0, .int 0, .int 0, .int 0, .int 0, .int 0])), (q16, .inl (C 0, (780, .inl (fun _ => 0)))), (q17, .inl (C 0, (780, .inl (fun _ => 0)))), (q18, .inl (C 0, (780, .inl (fun _ => 0)))), (q19, .inl (C 0, (780, .inl (fun _ => 0)))), (q20, .inr (4, [.int (0), .int (1), .int (0)])), (q21, .inr (3, [.ref q22, .int 0, .int 0])), (q22, .inl (C 0, (40, .inl (fun _ => 0)))), (q23, .inr (2, [.ref q24, .ref q25, .int 0, .int 0, .long 0, .long 0, .long 0])), (q24, .inl (C 1, (40, .inr (.inl (fun _ => 0))))), (q25, .inl (C 1, (40, .inr (.inl (fun _ => 0)))))])) (by simp only [List.cons_append, List.append_assoc, List.nil_append]) ?_
  refine y_putF (pc := 164) (q0 := 0) dX10_init_164 ff_X10_73 rfl rfl (Nat.le_of_ble_eq_true rfl) ?_
  refine y_world (w' := (h0, .inr (10, [.ref qb, .ref qp, .ref q1, .ref q3, .ref q5, .ref q7, .ref q8, .ref q15, .ref q21, .ref q23, .null, .int 0, .int 0])) :: (W ++ [(q1, .inr (1, [.ref q2, .int 0, .int 0, .int 0])), (q2, .inr (6, [.int 0, .int 0, .int 0, .int 0, .int 0, .int 0, .int 0, .int 0])), (q3, .inr (9, [.ref q4, .int 0])), (q4, .inl (C 0, (16, .inl (fun _ => 0)))), (q5, .inr (9, [.ref q6, .int 0])), (q6, .inl (C 0, (0, .inl (fun _ => 0)))), (q7, .inr (4, [.int (0), .int (1), .int (0)])), (q8, .inr (7, [.ref q9, .ref q10, .ref q11, .ref q12, .ref q13, .ref q14, .int 0, .int 0])), (q9, .inl (C 0, (40, .inl (fun _ => 0)))), (q10, .inl (C 0, (40, .inl (fun _ => 0)))), (q11, .inl (C 0, (40, .inl (fun _ => 0)))), (q12, .inl (C 0, (40, .inl (fun _ => 0)))), (q13, .inl (C 0, (40, .inl (fun _ => 0)))), (q14, .inl (C 0, (40, .inl (fun _ => 0)))), (q15, .inr (5, [.ref q16, .ref q17, .ref q18, .ref q19, .ref q20, .int 0, .int 0, .int 0, .int 0, .int 0, .int 0])), (q16, .inl (C 0, (780, .inl (fun _ => 0)))), (q17, .inl (C 0, (780, .inl (fun _ => 0)))), (q18, .inl (C 0, (780, .inl (fun _ => 0)))), (q19, .inl (C 0, (780, .inl (fun _ => 0)))), (q20, .inr (4, [.int (0), .int (1), .int (0)])), (q21, .inr (3, [.ref q22, .int 0, .int 0])), (q22, .inl (C 0, (40, .inl (fun _ => 0)))), (q23, .inr (2, [.ref q24, .ref q25, .int 0, .int 0, .long 0, .long 0, .long 0])), (q24, .inl (C 1, (40, .inr (.inl (fun _ => 0))))), (q25, .inl (C 1, (40, .inr (.inl (fun _ => 0)))))])) rfl ?_
  refine y_aload_n (pc := 167) dX10_init_167 rfl ?_
  refine y_new (pc := 168) dX10_init_168 nw_X10_77 (by show 84 ≤ K; omega) (by show 4751 ≤ N; omega) (fun q26 => ?_)
  refine y_dup (pc := 171) dX10_init_171 rfl ?_
  refine y_init (pc := 172) (K' := 1) (N' := 40) [] dX10_init_172 ci_X10_79 rfl (Nat.le_of_ble_eq_true rfl) rfl (by show 85 ≤ K; omega) (by show 4791 ≤ N; omega) ?_
  refine yc_X8 (by decide) (by decide) (fun q27 => ⟨dX8_init_12, rfl, by decide, by decide, ?_⟩)
  refine y_world (w' := (h0, .inr (10, [.ref qb, .ref qp, .ref q1, .ref q3, .ref q5, .ref q7, .ref q8, .ref q15, .ref q21, .ref q23, .null, .int 0, .int 0])) :: (W ++ [(q1, .inr (1, [.ref q2, .int 0, .int 0, .int 0])), (q2, .inr (6, [.int 0, .int 0, .int 0, .int 0, .int 0, .int 0, .int 0, .int 0])), (q3, .inr (9, [.ref q4, .int 0])), (q4, .inl (C 0, (16, .inl (fun _ => 0)))), (q5, .inr (9, [.ref q6, .int 0])), (q6, .inl (C 0, (0, .inl (fun _ => 0)))), (q7, .inr (4, [.int (0), .int (1), .int (0)])), (q8, .inr (7, [.ref q9, .ref q10, .ref q11, .ref q12, .ref q13, .ref q14, .int 0, .int 0])), (q9, .inl (C 0, (40, .inl (fun _ => 0)))), (q10, .inl (C 0, (40, .inl (fun _ => 0)))), (q11, .inl (C 0, (40, .inl (fun _ => 0)))), (q12, .inl (C 0, (40, .inl (fun _ => 0)))), (q13, .inl (C 0, (40, .inl (fun _ => 0)))), (q14, .inl (C 0, (40, .inl (fun _ => 0)))), (q15, .inr (5, [.ref q16, .ref q17, .ref q18, .ref q19, .ref q20, .int 0, .int 0, .int 0, .int 0, .int 0, .int 0])), (q16, .inl (C 0, (780, .inl (fun _ => 0)))), (q17, .inl (C 0, (780, .inl (fun _ => 0)))), (q18, .inl (C 0, (780, .inl (fun _ => 0)))), (q19, .inl (C 0, (780, .inl (fun _ => 0)))), (q20, .inr (4, [.int (0), .int (1), .int (0)])), (q21, .inr (3, [.ref q22, .int 0, .int 0])), (q22, .inl (C 0, (40, .inl (fun _ => 0)))), (q23, .inr (2, [.ref q24, .ref q25, .int 0, .int 0, .long 0, .long 0, .long 0])), (q24, .inl (C 1, (40, .inr (.inl (fun _ => 0))))), (q25, .inl (C 1, (40, .inr (.inl (fun _ => 0))))), (q26, .inr (8, [.ref q27, .int 0, .long 0, .long 0])), (q27, .inl (C 0, (40, .inl (fun _ => 0))))])) (by simp only [List.cons_append, List.append_assoc, List.nil_append]) ?_
  refine y_putF (pc := 175) (q0 := 0) dX10_init_175 ff_X10_80 rfl rfl (Nat.le_of_ble_eq_true rfl) ?_
  refine y_world (w' := (h0, .inr (10, [.ref qb, .ref qp, .ref q1, .ref q3, .ref q5, .ref q7, .ref q8, .ref q15, .ref q21, .ref q23, .ref q26, .int 0, .int 0])) :: (W ++ [(q1, .inr (1, [.ref q2, .int 0, .int 0, .int 0])), (q2, .inr (6, [.int 0, .int 0, .int 0, .int 0, .int 0, .int 0, .int 0, .int 0])), (q3, .inr (9, [.ref q4, .int 0])), (q4, .inl (C 0, (16, .inl (fun _ => 0)))), (q5, .inr (9, [.ref q6, .int 0])), (q6, .inl (C 0, (0, .inl (fun _ => 0)))), (q7, .inr (4, [.int (0), .int (1), .int (0)])), (q8, .inr (7, [.ref q9, .ref q10, .ref q11, .ref q12, .ref q13, .ref q14, .int 0, .int 0])), (q9, .inl (C 0, (40, .inl (fun _ => 0)))), (q10, .inl (C 0, (40, .inl (fun _ => 0)))), (q11, .inl (C 0, (40, .inl (fun _ => 0)))), (q12, .inl (C 0, (40, .inl (fun _ => 0)))), (q13, .inl (C 0, (40, .inl (fun _ => 0)))), (q14, .inl (C 0, (40, .inl (fun _ => 0)))), (q15, .inr (5, [.ref q16, .ref q17, .ref q18, .ref q19, .ref q20, .int 0, .int 0, .int 0, .int 0, .int 0, .int 0])), (q16, .inl (C 0, (780, .inl (fun _ => 0)))), (q17, .inl (C 0, (780, .inl (fun _ => 0)))), (q18, .inl (C 0, (780, .inl (fun _ => 0)))), (q19, .inl (C 0, (780, .inl (fun _ => 0)))), (q20, .inr (4, [.int (0), .int (1), .int (0)])), (q21, .inr (3, [.ref q22, .int 0, .int 0])), (q22, .inl (C 0, (40, .inl (fun _ => 0)))), (q23, .inr (2, [.ref q24, .ref q25, .int 0, .int 0, .long 0, .long 0, .long 0])), (q24, .inl (C 1, (40, .inr (.inl (fun _ => 0))))), (q25, .inl (C 1, (40, .inr (.inl (fun _ => 0))))), (q26, .inr (8, [.ref q27, .int 0, .long 0, .long 0])), (q27, .inl (C 0, (40, .inl (fun _ => 0))))])) rfl ?_
  exact y_stop (h q1 q2 q3 q4 q5 q6 q7 q8 q9 q10 q11 q12 q13 q14 q15 q16 q17 q18 q19 q20 q21 q22 q23 q24 q25 q26 q27)

set_option maxRecDepth 20000 in
theorem yc_X10 {l : Launch} {D : va_G} {C : Nat → ClassId} {d K N : Nat} {Q : Yq} {h0 : Nat} (hK : 85 ≤ K) (hN : 4791 ≤ N) (h : ∀ (qb qp : Nat) (R T : va_W) (f g : Nat → Option Nat) (bd it pl : Nat → Nat) (q1 q2 q3 q4 q5 q6 q7 q8 q9 q10 q11 q12 q13 q14 q15 q16 q17 q18 q19 q20 q21 q22 q23 q24 q25 q26 q27 : Nat), bdsI C R f bd it 8 → plsI T g pl 40 → Q 178 [some (.ref h0), none] [] ((h0, .inr (10, [.ref qb, .ref qp, .ref q1, .ref q3, .ref q5, .ref q7, .ref q8, .ref q15, .ref q21, .ref q23, .ref q26, .int 0, .int 0])) :: (((qp, .inl (C 4, 40, .inr (.inr (.inr (.inr g))))) :: (((qb, .inl (C 3, 8, .inr (.inr (.inr (.inr f))))) :: R) ++ T)) ++ [(q1, .inr (1, [.ref q2, .int 0, .int 0, .int 0])), (q2, .inr (6, [.int 0, .int 0, .int 0, .int 0, .int 0, .int 0, .int 0, .int 0])), (q3, .inr (9, [.ref q4, .int 0])), (q4, .inl (C 0, (16, .inl (fun _ => 0)))), (q5, .inr (9, [.ref q6, .int 0])), (q6, .inl (C 0, (0, .inl (fun _ => 0)))), (q7, .inr (4, [.int (0), .int (1), .int (0)])), (q8, .inr (7, [.ref q9, .ref q10, .ref q11, .ref q12, .ref q13, .ref q14, .int 0, .int 0])), (q9, .inl (C 0, (40, .inl (fun _ => 0)))), (q10, .inl (C 0, (40, .inl (fun _ => 0)))), (q11, .inl (C 0, (40, .inl (fun _ => 0)))), (q12, .inl (C 0, (40, .inl (fun _ => 0)))), (q13, .inl (C 0, (40, .inl (fun _ => 0)))), (q14, .inl (C 0, (40, .inl (fun _ => 0)))), (q15, .inr (5, [.ref q16, .ref q17, .ref q18, .ref q19, .ref q20, .int 0, .int 0, .int 0, .int 0, .int 0, .int 0])), (q16, .inl (C 0, (780, .inl (fun _ => 0)))), (q17, .inl (C 0, (780, .inl (fun _ => 0)))), (q18, .inl (C 0, (780, .inl (fun _ => 0)))), (q19, .inl (C 0, (780, .inl (fun _ => 0)))), (q20, .inr (4, [.int (0), .int (1), .int (0)])), (q21, .inr (3, [.ref q22, .int 0, .int 0])), (q22, .inl (C 0, (40, .inl (fun _ => 0)))), (q23, .inr (2, [.ref q24, .ref q25, .int 0, .int 0, .long 0, .long 0, .long 0])), (q24, .inl (C 1, (40, .inr (.inl (fun _ => 0))))), (q25, .inl (C 1, (40, .inr (.inl (fun _ => 0))))), (q26, .inr (8, [.ref q27, .int 0, .long 0, .long 0])), (q27, .inl (C 0, (40, .inl (fun _ => 0))))])) 85 4791) : Y l D C M_X10_init (d + 3) K N 0 [some (.ref h0)] [] [(h0, .inr (10, dfl 10))] 0 0 Q := by
  refine y_sub (L' := [some (.ref h0), none]) ⟨rfl, trivial⟩ ?_
  refine y_aload_n (pc := 0) dX10_init_0 rfl ?_
  refine y_objInit (pc := 1) dX10_init_1 oi_X10_1 oi_i oi_c rfl ?_
  refine y_aload_n (pc := 4) dX10_init_4 rfl ?_
  refine y_bipush (pc := 5) (v := 8) dX10_init_5 (by decide) ?_
  refine y_newq (pc := 7) (t := 3) (Z := 8) (B := RX0) dX10_init_7 cl_X10_9 (Or.inl rfl) rfl (by decide) (by decide) (by decide) (by show 1 ≤ K; omega) (by show 8 ≤ N; omega) (fun qb => ?_)
  refine y_putF (pc := 10) (q0 := 0) dX10_init_10 ff_X10_11 rfl rfl (Nat.le_of_ble_eq_true rfl) ?_
  refine y_world (w' := [(h0, .inr (10, [.ref qb, .null, .null, .null, .null, .null, .null, .null, .null, .null, .null, .int 0, .int 0])), (qb, .inl (C 3, 8, .inr (.inr (.inr (.inr (fun _ => none))))))]) rfl ?_
  refine y_iconst (pc := 13) (v := 0) dX10_init_13 (by decide) ?_
  refine y_istore_n (pc := 14) dX10_init_14 rfl rfl rfl ?_
  refine yl_beds hK hN ?_ 9 0 0 [] (fun _ => none) (fun _ => 0) (fun _ => 0) _ _ (by decide) (by omega) (by omega) ⟨rfl, fun j hj => absurd hj (by omega)⟩ rfl rfl
  intro R f bd it hb
  refine y_aload_n (pc := 40) dX10_init_40 rfl ?_
  refine y_bipush (pc := 41) (v := 40) dX10_init_41 (by decide) ?_
  refine y_newq (pc := 43) (t := 4) (Z := 40) (B := RX6) dX10_init_43 cl_X10_16 (Or.inr rfl) rfl (by decide) (by decide) (by decide) (by show 18 ≤ K; omega) (by show 880 ≤ N; omega) (fun qp => ?_)
  refine y_by (w' := (h0, .inr (10, [.ref qb, .null, .null, .null, .null, .null, .null, .null, .null, .null, .null, .int 0, .int 0])) :: (qp, .inl (C 4, 40, .inr (.inr (.inr (.inr (fun _ => none)))))) :: (qb, .inl (C 3, 8, .inr (.inr (.inr (.inr f))))) :: R) (fun k => if k = 0 then 0 else if k = 1 then R.length + 2 else k - 1) (fun k q hq => ?_) (fun i j hi hj => ?_) ?_
  · match k, hq with
    | 0, hq => exact hq
    | 1, hq =>
      have e : (if (1 : Nat) = 0 then 0 else if (1 : Nat) = 1 then R.length + 2 else 1 - 1) = 2 + R.length := by rw [if_neg (by omega), if_pos rfl]; omega
      rw [e, at_2]
      exact hq
    | 2, hq => exact hq
    | m + 3, hq =>
      have e : (if m + 3 = 0 then 0 else if m + 3 = 1 then R.length + 2 else m + 3 - 1) = m + 2 := by rw [if_neg (by omega), if_neg (by omega)]; omega
      rw [e]
      have hq' : R[m]? = some q := hq
      have hl := (List.getElem?_eq_some_iff.mp hq').1
      show (R ++ [_])[m]? = some q
      rw [List.getElem?_append_left hl]
      exact hq'
  · simp only [List.length_cons] at hi hj
    intro e
    split at e <;> split at e <;> (try split at e) <;> (try split at e) <;> omega
  refine y_putF (pc := 46) (q0 := 0) dX10_init_46 ff_X10_18 rfl rfl (Nat.le_of_ble_eq_true rfl) ?_
  refine y_world (w' := (h0, .inr (10, [.ref qb, .ref qp, .null, .null, .null, .null, .null, .null, .null, .null, .null, .int 0, .int 0])) :: (qp, .inl (C 4, 40, .inr (.inr (.inr (.inr (fun _ => none)))))) :: (((qb, .inl (C 3, 8, .inr (.inr (.inr (.inr f))))) :: R) ++ [])) (by rw [List.append_nil]; rfl) ?_
  refine y_iconst (pc := 49) (v := 0) dX10_init_49 (by decide) ?_
  refine y_istore_n (pc := 50) dX10_init_50 rfl rfl rfl ?_
  refine yl_plants hK hN ?_ 41 0 0 [] (fun _ => none) (fun _ => 0) _ _ (by decide) (by omega) (by omega) ⟨rfl, fun j hj => absurd hj (by omega)⟩ rfl rfl
  intro T g pl hp
  exact yc_X10_c hK hN (fun q1 q2 q3 q4 q5 q6 q7 q8 q9 q10 q11 q12 q13 q14 q15 q16 q17 q18 q19 q20 q21 q22 q23 q24 q25 q26 q27 => h qb qp R T f g bd it pl q1 q2 q3 q4 q5 q6 q7 q8 q9 q10 q11 q12 q13 q14 q15 q16 q17 q18 q19 q20 q21 q22 q23 q24 q25 q26 q27 hb hp)

