theorem c_leave6 {l : Launch} {G : Gx} {d : Nat} {σ : Sg} {Q : Option Value → Sg → Prop} {b : Int32} (hl : 0 ≤ (σ.1 6 1).toInt) (hl2 : (σ.1 6 1).toInt ≤ 16) (h : Q none (lvT 6 σ b)) : Z l G M_X9_leave (d) 0 [some (.ref 6), some (.int b)] [] σ Q := by
  refine z_sub (L' := [some (.ref 6), some (.int b)]) ⟨rfl, rfl, trivial⟩ ?_
  refine z_aload_n (pc := 0) dX9_leave_0 rfl ?_
  refine z_getI (pc := 1) dX9_leave_1 fk_X9_13 rfl (by decide) (by decide) (by decide) ?_
  refine zq_if_lt (pc := 4) (tgt := 39) dX9_leave_4 rfl rfl (fun h4 => ?_) (fun h4 => ?_)
  · skip
    refine z_vret (pc := 39) dX9_leave_39 rfl ?_
    have h16 : (Int32.ofNat (ln 7)).toInt = 16 := rfl
    first | (rw [show lvT 6 σ b = σ from if_neg (by omega)] at h; exact h) | (rw [show lvT 6 σ b = _ from if_pos (by omega)] at h; rw [uI_no (by omega)]; exact h)
  · skip
    refine z_aload_n (pc := 7) dX9_leave_7 rfl ?_
    refine z_getI (pc := 8) dX9_leave_8 fk_X9_13 rfl (by decide) (by decide) (by decide) ?_
    refine z_aload_n (pc := 11) dX9_leave_11 rfl ?_
    refine z_getR (pc := 12) (t := 7) dX9_leave_12 fk_X9_7 rfl (by decide) (by decide) (by decide) rfl ?_
    refine z_alenI (pc := 15) dX9_leave_15 rfl (by decide) ?_
    refine zq_icmp_ge (pc := 16) (tgt := 39) dX9_leave_16 rfl rfl rfl (fun h16 => ?_) (fun h16 => ?_)
    · skip
      refine z_vret (pc := 39) dX9_leave_39 rfl ?_
      have h16 : (Int32.ofNat (ln 7)).toInt = 16 := rfl
      first | (rw [show lvT 6 σ b = σ from if_neg (by omega)] at h; exact h) | (rw [show lvT 6 σ b = _ from if_pos (by omega)] at h; rw [uI_no (by omega)]; exact h)
    · skip
      refine z_aload_n (pc := 19) dX9_leave_19 rfl ?_
      refine z_getR (pc := 20) (t := 7) dX9_leave_20 fk_X9_7 rfl (by decide) (by decide) (by decide) rfl ?_
      refine z_aload_n (pc := 23) dX9_leave_23 rfl ?_
      refine z_getI (pc := 24) dX9_leave_24 fk_X9_13 rfl (by decide) (by decide) (by decide) ?_
      refine z_iload_n (pc := 27) dX9_leave_27 rfl ?_
      refine z_iastN (pc := 28) (σ.1 6 1).toInt.toNat dX9_leave_28 rfl (by decide) (by omega) (by show _ < 16; have : (Int32.ofNat (ln 7)).toInt = 16 := rfl; omega) ?_
      refine z_aload_n (pc := 29) dX9_leave_29 rfl ?_
      refine z_dup (pc := 30) dX9_leave_30 rfl ?_
      refine z_getI (pc := 31) dX9_leave_31 fk_X9_13 rfl (by decide) (by decide) (by decide) ?_
      refine z_iconst (pc := 34) (v := 1) dX9_leave_34 (by decide) ?_
      refine z_iadd (pc := 35) dX9_leave_35 ?_
      refine z_putI (pc := 36) dX9_leave_36 fk_X9_13 rfl (by decide) (by decide) (by decide) ?_
      refine z_vret (pc := 39) dX9_leave_39 rfl ?_
      have h16 : (Int32.ofNat (ln 7)).toInt = 16 := rfl
      first | (rw [show lvT 6 σ b = σ from if_neg (by omega)] at h; exact h) | (rw [show lvT 6 σ b = _ from if_pos (by omega)] at h; rw [uI_no (by omega)]; exact h)

theorem c_leave8 {l : Launch} {G : Gx} {d : Nat} {σ : Sg} {Q : Option Value → Sg → Prop} {b : Int32} (h : Q none (lvT 8 σ b)) : Z l G M_X9_leave (d) 0 [some (.ref 8), some (.int b)] [] σ Q := by
  refine z_sub (L' := [some (.ref 8), some (.int b)]) ⟨rfl, rfl, trivial⟩ ?_
  refine z_aload_n (pc := 0) dX9_leave_0 rfl ?_
  refine z_getI (pc := 1) dX9_leave_1 fk_X9_13 rfl (by decide) (by decide) (by decide) ?_
  refine zq_if_lt (pc := 4) (tgt := 39) dX9_leave_4 rfl rfl (fun h4 => ?_) (fun h4 => ?_)
  · skip
    refine z_vret (pc := 39) dX9_leave_39 rfl ?_
    rw [show lvT 8 σ b = σ from if_neg (fun z => absurd z.1 (by decide))] at h; exact h
  · skip
    refine z_aload_n (pc := 7) dX9_leave_7 rfl ?_
    refine z_getI (pc := 8) dX9_leave_8 fk_X9_13 rfl (by decide) (by decide) (by decide) ?_
    refine z_aload_n (pc := 11) dX9_leave_11 rfl ?_
    refine z_getR (pc := 12) (t := 9) dX9_leave_12 fk_X9_7 rfl (by decide) (by decide) (by decide) rfl ?_
    refine z_alenI (pc := 15) dX9_leave_15 rfl (by decide) ?_
    refine zq_icmp_ge (pc := 16) (tgt := 39) dX9_leave_16 rfl rfl rfl (fun h16 => ?_) (fun h16 => ?_)
    · skip
      refine z_vret (pc := 39) dX9_leave_39 rfl ?_
      rw [show lvT 8 σ b = σ from if_neg (fun z => absurd z.1 (by decide))] at h; exact h
    · skip
      exfalso
      have h0 : (Int32.ofNat (ln 9)).toInt = 0 := rfl
      omega

theorem c_leave {l : Launch} {G : Gx} {d : Nat} {σ : Sg} {Q : Option Value → Sg → Prop} {t : Nat} {b : Int32} (hT : TL σ t) (h : Q none (lvT t σ b)) : Z l G M_X9_leave d 0 [some (.ref t), some (.int b)] [] σ Q := by
  obtain ⟨h1, h2, h3⟩ := hT
  rcases h1 with rfl | rfl
  · exact c_leave6 h2 h3 h
  · exact c_leave8 h

theorem c_g10 {l : Launch} {G : Gx} {d : Nat} {σ : Sg} {Q : Option Value → Sg → Prop} {o t : Nat} {x : Int32} (ho : kd o = 6) (hn : o < 105) (h6 : o ≠ 6) (h7 : o ≠ 7) (hT : TL σ t) (hx0 : 0 ≤ x.toInt) (hx : x.toInt < 8) (h : ∀ r : Int32, r.toInt = 0 → Q (some (.int r)) (lvs t σ [10])) : Z l G M_X6_gives (d + 1) 0 [some (.ref o), some (.int 10), some (.ref t), some (.int x)] [] σ Q := by
  refine z_sub (L' := [some (.ref o), some (.int 10), some (.ref t), some (.int x), none]) ⟨rfl, rfl, rfl, rfl, trivial⟩ ?_
  refine z_iload_n (pc := 0) dX6_gives_0 rfl ?_
  refine z_bipush (pc := 1) (v := 8) dX6_gives_1 (by decide) ?_
  refine zq_icmp_lt (pc := 3) (cy := 8) (tgt := 8) dX6_gives_3 rfl rfl (by decide) (fun h3 => ?_) (fun h3 => ?_)
  · skip
    refine z_aload_n (pc := 8) dX6_gives_8 rfl ?_
    refine z_iload_n (pc := 9) dX6_gives_9 rfl ?_
    refine z_iv1 (pc := 10) dX6_gives_10 kv_X6_59 (TL_kd hT).1 (TL_kd hT).2 (by decide) rfl rfl ?_
    refine c_leave hT ?_
    refine z_iload_n (pc := 13) dX6_gives_13 rfl ?_
    refine z_iconst (pc := 14) (v := 1) dX6_gives_14 (by decide) ?_
    refine z_iaddT (pc := 15) (cy := 1) dX6_gives_15 rfl (by decide) (by omega) (by omega) (fun v15 e15 => ?_)
    refine z_istore (pc := 16) dX6_gives_16 rfl rfl (by dsimp only [setI, setL, List.set]) ?_
    refine z_iload_n (pc := 18) dX6_gives_18 rfl ?_
    refine zq_swOut (pc := 19) (tgt := 286) dX6_gives_19 (by decide) rfl ?_
    refine z_iconst (pc := 286) (v := 0) dX6_gives_286 (by decide) ?_
    refine z_iret (pc := 287) dX6_gives_287 rfl ?_
    exact h _ (by rfl)
  · skip
    refine z_iconst (pc := 6) (v := 0) dX6_gives_6 (by decide) ?_
    refine z_iret (pc := 7) dX6_gives_7 rfl ?_
    exfalso; omega

theorem c_g11 {l : Launch} {G : Gx} {d : Nat} {σ : Sg} {Q : Option Value → Sg → Prop} {o t : Nat} {x : Int32} (ho : kd o = 6) (hn : o < 105) (h6 : o ≠ 6) (h7 : o ≠ 7) (hT : TL σ t) (hx0 : 0 ≤ x.toInt) (hx : x.toInt < 8) (h : ∀ r : Int32, r.toInt = 1 → Q (some (.int r)) (lvs t σ [11])) : Z l G M_X6_gives (d + 1) 0 [some (.ref o), some (.int 11), some (.ref t), some (.int x)] [] σ Q := by
  refine z_sub (L' := [some (.ref o), some (.int 11), some (.ref t), some (.int x), none]) ⟨rfl, rfl, rfl, rfl, trivial⟩ ?_
  refine z_iload_n (pc := 0) dX6_gives_0 rfl ?_
  refine z_bipush (pc := 1) (v := 8) dX6_gives_1 (by decide) ?_
  refine zq_icmp_lt (pc := 3) (cy := 8) (tgt := 8) dX6_gives_3 rfl rfl (by decide) (fun h3 => ?_) (fun h3 => ?_)
  · skip
    refine z_aload_n (pc := 8) dX6_gives_8 rfl ?_
    refine z_iload_n (pc := 9) dX6_gives_9 rfl ?_
    refine z_iv1 (pc := 10) dX6_gives_10 kv_X6_59 (TL_kd hT).1 (TL_kd hT).2 (by decide) rfl rfl ?_
    refine c_leave hT ?_
    refine z_iload_n (pc := 13) dX6_gives_13 rfl ?_
    refine z_iconst (pc := 14) (v := 1) dX6_gives_14 (by decide) ?_
    refine z_iaddT (pc := 15) (cy := 1) dX6_gives_15 rfl (by decide) (by omega) (by omega) (fun v15 e15 => ?_)
    refine z_istore (pc := 16) dX6_gives_16 rfl rfl (by dsimp only [setI, setL, List.set]) ?_
    refine z_iload_n (pc := 18) dX6_gives_18 rfl ?_
    refine zq_swIn (pc := 19) (c := 11) (tgt := 160) dX6_gives_19 (by decide) (by decide) (by decide) rfl rfl ?_
    refine z_iconst (pc := 160) (v := 1) dX6_gives_160 (by decide) ?_
    refine z_iret (pc := 161) dX6_gives_161 rfl ?_
    exact h _ (by rfl)
  · skip
    refine z_iconst (pc := 6) (v := 0) dX6_gives_6 (by decide) ?_
    refine z_iret (pc := 7) dX6_gives_7 rfl ?_
    exfalso; omega

theorem c_g20 {l : Launch} {G : Gx} {d : Nat} {σ : Sg} {Q : Option Value → Sg → Prop} {o t : Nat} {x : Int32} (ho : kd o = 6) (hn : o < 105) (h6 : o ≠ 6) (h7 : o ≠ 7) (hT : TL σ t) (hx0 : 0 ≤ x.toInt) (hx : x.toInt < 8) (h : ∀ r : Int32, r.toInt = 0 → Q (some (.int r)) (lvs t σ [20])) : Z l G M_X6_gives (d + 1) 0 [some (.ref o), some (.int 20), some (.ref t), some (.int x)] [] σ Q := by
  refine z_sub (L' := [some (.ref o), some (.int 20), some (.ref t), some (.int x), none]) ⟨rfl, rfl, rfl, rfl, trivial⟩ ?_
  refine z_iload_n (pc := 0) dX6_gives_0 rfl ?_
  refine z_bipush (pc := 1) (v := 8) dX6_gives_1 (by decide) ?_
  refine zq_icmp_lt (pc := 3) (cy := 8) (tgt := 8) dX6_gives_3 rfl rfl (by decide) (fun h3 => ?_) (fun h3 => ?_)
  · skip
    refine z_aload_n (pc := 8) dX6_gives_8 rfl ?_
    refine z_iload_n (pc := 9) dX6_gives_9 rfl ?_
    refine z_iv1 (pc := 10) dX6_gives_10 kv_X6_59 (TL_kd hT).1 (TL_kd hT).2 (by decide) rfl rfl ?_
    refine c_leave hT ?_
    refine z_iload_n (pc := 13) dX6_gives_13 rfl ?_
    refine z_iconst (pc := 14) (v := 1) dX6_gives_14 (by decide) ?_
    refine z_iaddT (pc := 15) (cy := 1) dX6_gives_15 rfl (by decide) (by omega) (by omega) (fun v15 e15 => ?_)
    refine z_istore (pc := 16) dX6_gives_16 rfl rfl (by dsimp only [setI, setL, List.set]) ?_
    refine z_iload_n (pc := 18) dX6_gives_18 rfl ?_
    refine zq_swIn (pc := 19) (c := 20) (tgt := 286) dX6_gives_19 (by decide) (by decide) (by decide) rfl rfl ?_
    refine z_iconst (pc := 286) (v := 0) dX6_gives_286 (by decide) ?_
    refine z_iret (pc := 287) dX6_gives_287 rfl ?_
    exact h _ (by rfl)
  · skip
    refine z_iconst (pc := 6) (v := 0) dX6_gives_6 (by decide) ?_
    refine z_iret (pc := 7) dX6_gives_7 rfl ?_
    exfalso; omega

theorem c_g21 {l : Launch} {G : Gx} {d : Nat} {σ : Sg} {Q : Option Value → Sg → Prop} {o t : Nat} {x : Int32} (ho : kd o = 6) (hn : o < 105) (h6 : o ≠ 6) (h7 : o ≠ 7) (hT : TL σ t) (hx0 : 0 ≤ x.toInt) (hx : x.toInt < 8) (h : ∀ r : Int32, r.toInt = 1 → Q (some (.int r)) (lvs t σ [21])) : Z l G M_X6_gives (d + 1) 0 [some (.ref o), some (.int 21), some (.ref t), some (.int x)] [] σ Q := by
  refine z_sub (L' := [some (.ref o), some (.int 21), some (.ref t), some (.int x), none]) ⟨rfl, rfl, rfl, rfl, trivial⟩ ?_
  refine z_iload_n (pc := 0) dX6_gives_0 rfl ?_
  refine z_bipush (pc := 1) (v := 8) dX6_gives_1 (by decide) ?_
  refine zq_icmp_lt (pc := 3) (cy := 8) (tgt := 8) dX6_gives_3 rfl rfl (by decide) (fun h3 => ?_) (fun h3 => ?_)
  · skip
    refine z_aload_n (pc := 8) dX6_gives_8 rfl ?_
    refine z_iload_n (pc := 9) dX6_gives_9 rfl ?_
    refine z_iv1 (pc := 10) dX6_gives_10 kv_X6_59 (TL_kd hT).1 (TL_kd hT).2 (by decide) rfl rfl ?_
    refine c_leave hT ?_
    refine z_iload_n (pc := 13) dX6_gives_13 rfl ?_
    refine z_iconst (pc := 14) (v := 1) dX6_gives_14 (by decide) ?_
    refine z_iaddT (pc := 15) (cy := 1) dX6_gives_15 rfl (by decide) (by omega) (by omega) (fun v15 e15 => ?_)
    refine z_istore (pc := 16) dX6_gives_16 rfl rfl (by dsimp only [setI, setL, List.set]) ?_
    refine z_iload_n (pc := 18) dX6_gives_18 rfl ?_
    refine zq_swIn (pc := 19) (c := 21) (tgt := 160) dX6_gives_19 (by decide) (by decide) (by decide) rfl rfl ?_
    refine z_iconst (pc := 160) (v := 1) dX6_gives_160 (by decide) ?_
    refine z_iret (pc := 161) dX6_gives_161 rfl ?_
    exact h _ (by rfl)
  · skip
    refine z_iconst (pc := 6) (v := 0) dX6_gives_6 (by decide) ?_
    refine z_iret (pc := 7) dX6_gives_7 rfl ?_
    exfalso; omega

theorem c_g12 {l : Launch} {G : Gx} {d : Nat} {σ : Sg} {Q : Option Value → Sg → Prop} {o t : Nat} {x : Int32} (ho : kd o = 6) (hn : o < 105) (h6 : o ≠ 6) (h7 : o ≠ 7) (hT : TL σ t) (hx0 : 0 ≤ x.toInt) (hx : x.toInt < 7) (h : ∀ r : Int32, r.toInt = 2 → Q (some (.int r)) (lvs t σ [12, 11])) : Z l G M_X6_gives (d + 2) 0 [some (.ref o), some (.int 12), some (.ref t), some (.int x)] [] σ Q := by
  refine z_sub (L' := [some (.ref o), some (.int 12), some (.ref t), some (.int x), none]) ⟨rfl, rfl, rfl, rfl, trivial⟩ ?_
  refine z_iload_n (pc := 0) dX6_gives_0 rfl ?_
  refine z_bipush (pc := 1) (v := 8) dX6_gives_1 (by decide) ?_
  refine zq_icmp_lt (pc := 3) (cy := 8) (tgt := 8) dX6_gives_3 rfl rfl (by decide) (fun h3 => ?_) (fun h3 => ?_)
  · skip
    refine z_aload_n (pc := 8) dX6_gives_8 rfl ?_
    refine z_iload_n (pc := 9) dX6_gives_9 rfl ?_
    refine z_iv1 (pc := 10) dX6_gives_10 kv_X6_59 (TL_kd hT).1 (TL_kd hT).2 (by decide) rfl rfl ?_
    refine c_leave hT ?_
    refine z_iload_n (pc := 13) dX6_gives_13 rfl ?_
    refine z_iconst (pc := 14) (v := 1) dX6_gives_14 (by decide) ?_
    refine z_iaddT (pc := 15) (cy := 1) dX6_gives_15 rfl (by decide) (by omega) (by omega) (fun v15 e15 => ?_)
    refine z_istore (pc := 16) dX6_gives_16 rfl rfl (by dsimp only [setI, setL, List.set]) ?_
    refine z_iload_n (pc := 18) dX6_gives_18 rfl ?_
    refine zq_swIn (pc := 19) (c := 12) (tgt := 162) dX6_gives_19 (by decide) (by decide) (by decide) rfl rfl ?_
    refine z_iconst (pc := 162) (v := 2) dX6_gives_162 (by decide) ?_
    refine z_aload_n (pc := 163) dX6_gives_163 rfl ?_
    refine z_bipush (pc := 164) (v := 11) dX6_gives_164 (by decide) ?_
    refine z_aload_n (pc := 166) dX6_gives_166 rfl ?_
    refine z_iload (pc := 167) dX6_gives_167 rfl ?_
    refine z_iv3 (pc := 169) dX6_gives_169 kv_X6_56 ho hn (by decide) rfl rfl ?_
    refine c_g11 ho hn h6 h7 (lvT_TL hT) (by omega) (by omega) (fun r169 er169 => ?_)
    refine z_imulT (pc := 172) (cx := 2) dX6_gives_172 (by decide) rfl (by omega) (by omega) (fun v172 e172 => ?_)
    refine z_iret (pc := 173) dX6_gives_173 rfl ?_
    exact h _ (by omega)
  · skip
    refine z_iconst (pc := 6) (v := 0) dX6_gives_6 (by decide) ?_
    refine z_iret (pc := 7) dX6_gives_7 rfl ?_
    exfalso; omega

theorem c_g13 {l : Launch} {G : Gx} {d : Nat} {σ : Sg} {Q : Option Value → Sg → Prop} {o t : Nat} {x : Int32} (ho : kd o = 6) (hn : o < 105) (h6 : o ≠ 6) (h7 : o ≠ 7) (hT : TL σ t) (hx0 : 0 ≤ x.toInt) (hx : x.toInt < 7) (h1 : (σ.1 o 3).toInt = 1 → ∀ r : Int32, r.toInt = 1 → Q (some (.int r)) (lvs t σ [13])) (h2 : (σ.1 o 3).toInt ≠ 1 → ∀ r : Int32, r.toInt = 0 → Q (some (.int r)) (lvs t σ [13, 10])) : Z l G M_X6_gives (d + 2) 0 [some (.ref o), some (.int 13), some (.ref t), some (.int x)] [] σ Q := by
  refine z_sub (L' := [some (.ref o), some (.int 13), some (.ref t), some (.int x), none]) ⟨rfl, rfl, rfl, rfl, trivial⟩ ?_
  refine z_iload_n (pc := 0) dX6_gives_0 rfl ?_
  refine z_bipush (pc := 1) (v := 8) dX6_gives_1 (by decide) ?_
  refine zq_icmp_lt (pc := 3) (cy := 8) (tgt := 8) dX6_gives_3 rfl rfl (by decide) (fun h3 => ?_) (fun h3 => ?_)
  · skip
    refine z_aload_n (pc := 8) dX6_gives_8 rfl ?_
    refine z_iload_n (pc := 9) dX6_gives_9 rfl ?_
    refine z_iv1 (pc := 10) dX6_gives_10 kv_X6_59 (TL_kd hT).1 (TL_kd hT).2 (by decide) rfl rfl ?_
    refine c_leave hT ?_
    refine z_iload_n (pc := 13) dX6_gives_13 rfl ?_
    refine z_iconst (pc := 14) (v := 1) dX6_gives_14 (by decide) ?_
    refine z_iaddT (pc := 15) (cy := 1) dX6_gives_15 rfl (by decide) (by omega) (by omega) (fun v15 e15 => ?_)
    refine z_istore (pc := 16) dX6_gives_16 rfl rfl (by dsimp only [setI, setL, List.set]) ?_
    refine z_iload_n (pc := 18) dX6_gives_18 rfl ?_
    refine zq_swIn (pc := 19) (c := 13) (tgt := 174) dX6_gives_19 (by decide) (by decide) (by decide) rfl rfl ?_
    have e3 : (lvT t σ 13).1 o 3 = σ.1 o 3 := by rw [lvT_row h6 h7]
    refine z_aload_n (pc := 174) dX6_gives_174 rfl ?_
    refine z_getI (pc := 175) dX6_gives_175 fk_X6_29 ho hn (by decide) (by decide) ?_
    refine z_iconst (pc := 178) (v := 1) dX6_gives_178 (by decide) ?_
    refine zq_icmp_ne (pc := 179) (cy := 1) (tgt := 186) dX6_gives_179 rfl rfl (by decide) (fun h179 => ?_) (fun h179 => ?_)
    · skip
      refine z_aload_n (pc := 186) dX6_gives_186 rfl ?_
      refine z_bipush (pc := 187) (v := 10) dX6_gives_187 (by decide) ?_
      refine z_aload_n (pc := 189) dX6_gives_189 rfl ?_
      refine z_iload (pc := 190) dX6_gives_190 rfl ?_
      refine z_iv3 (pc := 192) dX6_gives_192 kv_X6_56 ho hn (by decide) rfl rfl ?_
      refine c_g10 ho hn h6 h7 (lvT_TL hT) (by omega) (by omega) (fun r192 er192 => ?_)
      refine z_iret (pc := 195) dX6_gives_195 rfl ?_
      exact h2 (by rw [← e3]; assumption) _ (by omega)
    · skip
      refine z_iconst (pc := 182) (v := 1) dX6_gives_182 (by decide) ?_
      refine z_goto (pc := 183) (tgt := 195) dX6_gives_183 rfl ?_
      refine z_iret (pc := 195) dX6_gives_195 rfl ?_
      exact h1 (by rw [← e3]; assumption) _ (by rfl)
  · skip
    refine z_iconst (pc := 6) (v := 0) dX6_gives_6 (by decide) ?_
    refine z_iret (pc := 7) dX6_gives_7 rfl ?_
    exfalso; omega

theorem c_g22 {l : Launch} {G : Gx} {d : Nat} {σ : Sg} {Q : Option Value → Sg → Prop} {o t : Nat} {x : Int32} (ho : kd o = 6) (hn : o < 105) (h6 : o ≠ 6) (h7 : o ≠ 7) (hT : TL σ t) (hx0 : 0 ≤ x.toInt) (hx : x.toInt < 7) (h1 : (σ.1 o 3).toInt = 2 → ∀ r : Int32, r.toInt = 1 → Q (some (.int r)) (lvs t σ [22])) (h2 : (σ.1 o 3).toInt ≠ 2 → ∀ r : Int32, r.toInt = 0 → Q (some (.int r)) (lvs t σ [22, 20])) : Z l G M_X6_gives (d + 2) 0 [some (.ref o), some (.int 22), some (.ref t), some (.int x)] [] σ Q := by
  refine z_sub (L' := [some (.ref o), some (.int 22), some (.ref t), some (.int x), none]) ⟨rfl, rfl, rfl, rfl, trivial⟩ ?_
  refine z_iload_n (pc := 0) dX6_gives_0 rfl ?_
  refine z_bipush (pc := 1) (v := 8) dX6_gives_1 (by decide) ?_
  refine zq_icmp_lt (pc := 3) (cy := 8) (tgt := 8) dX6_gives_3 rfl rfl (by decide) (fun h3 => ?_) (fun h3 => ?_)
  · skip
    refine z_aload_n (pc := 8) dX6_gives_8 rfl ?_
    refine z_iload_n (pc := 9) dX6_gives_9 rfl ?_
    refine z_iv1 (pc := 10) dX6_gives_10 kv_X6_59 (TL_kd hT).1 (TL_kd hT).2 (by decide) rfl rfl ?_
    refine c_leave hT ?_
    refine z_iload_n (pc := 13) dX6_gives_13 rfl ?_
    refine z_iconst (pc := 14) (v := 1) dX6_gives_14 (by decide) ?_
    refine z_iaddT (pc := 15) (cy := 1) dX6_gives_15 rfl (by decide) (by omega) (by omega) (fun v15 e15 => ?_)
    refine z_istore (pc := 16) dX6_gives_16 rfl rfl (by dsimp only [setI, setL, List.set]) ?_
    refine z_iload_n (pc := 18) dX6_gives_18 rfl ?_
    refine zq_swIn (pc := 19) (c := 22) (tgt := 196) dX6_gives_19 (by decide) (by decide) (by decide) rfl rfl ?_
    have e3 : (lvT t σ 22).1 o 3 = σ.1 o 3 := by rw [lvT_row h6 h7]
    refine z_aload_n (pc := 196) dX6_gives_196 rfl ?_
    refine z_getI (pc := 197) dX6_gives_197 fk_X6_29 ho hn (by decide) (by decide) ?_
    refine z_iconst (pc := 200) (v := 2) dX6_gives_200 (by decide) ?_
    refine zq_icmp_ne (pc := 201) (cy := 2) (tgt := 208) dX6_gives_201 rfl rfl (by decide) (fun h201 => ?_) (fun h201 => ?_)
    · skip
      refine z_aload_n (pc := 208) dX6_gives_208 rfl ?_
      refine z_bipush (pc := 209) (v := 20) dX6_gives_209 (by decide) ?_
      refine z_aload_n (pc := 211) dX6_gives_211 rfl ?_
      refine z_iload (pc := 212) dX6_gives_212 rfl ?_
      refine z_iv3 (pc := 214) dX6_gives_214 kv_X6_56 ho hn (by decide) rfl rfl ?_
      refine c_g20 ho hn h6 h7 (lvT_TL hT) (by omega) (by omega) (fun r214 er214 => ?_)
      refine z_iret (pc := 217) dX6_gives_217 rfl ?_
      exact h2 (by rw [← e3]; assumption) _ (by omega)
    · skip
      refine z_iconst (pc := 204) (v := 1) dX6_gives_204 (by decide) ?_
      refine z_goto (pc := 205) (tgt := 217) dX6_gives_205 rfl ?_
      refine z_iret (pc := 217) dX6_gives_217 rfl ?_
      exact h1 (by rw [← e3]; assumption) _ (by rfl)
  · skip
    refine z_iconst (pc := 6) (v := 0) dX6_gives_6 (by decide) ?_
    refine z_iret (pc := 7) dX6_gives_7 rfl ?_
    exfalso; omega

theorem c_bRed {l : Launch} {G : Gx} {d : Nat} {σ : Sg} {Q : Option Value → Sg → Prop} {o t : Nat} {x : Int32} (ho : kd o = 6) (hn : o < 105) (h6 : o ≠ 6) (h7 : o ≠ 7) (hT : TL σ t) (hx0 : 0 ≤ x.toInt) (hx : x.toInt < 7) (hk0 : 0 ≤ (σ.1 o 2).toInt) (hk1 : (σ.1 o 2).toInt < 5) (h : ∀ r : Int32, r.toInt = redOf (σ.1 o 2).toInt (σ.1 o 3).toInt → Q (some (.int r)) (lvs t σ (redB (σ.1 o 2).toInt (σ.1 o 3).toInt))) : Z l G M_X6_begun (d + 3) 0 [some (.ref o), some (.int 0), some (.ref t), some (.int x)] [] σ Q := by
  refine z_sub (L' := [some (.ref o), some (.int 0), some (.ref t), some (.int x), none]) ⟨rfl, rfl, rfl, rfl, trivial⟩ ?_
  have h20 : (Int32.ofNat (rol G 107)).toInt = 20 := rfl
  rcases (show (σ.1 o 2).toInt = 0 ∨ (σ.1 o 2).toInt = 1 ∨ (σ.1 o 2).toInt = 2 ∨ (σ.1 o 2).toInt = 3 ∨ (σ.1 o 2).toInt = 4 by omega) with ek | ek | ek | ek | ek
  · skip
    refine z_iload_n (pc := 0) dX6_begun_0 rfl ?_
    refine z_iconst (pc := 1) (v := 5) dX6_begun_1 (by decide) ?_
    refine z_imulT (pc := 2) (cx := 0) (cy := 5) dX6_begun_2 (by decide) (by decide) (by omega) (by omega) (fun v2 e2 => ?_)
    refine z_aload_n (pc := 3) dX6_begun_3 rfl ?_
    refine z_getI (pc := 4) dX6_begun_4 fk_X6_18 ho hn (by decide) (by decide) ?_
    refine z_iaddT (pc := 7) dX6_begun_7 rfl rfl (by omega) (by omega) (fun v7 e7 => ?_)
    refine z_istore (pc := 8) dX6_begun_8 rfl rfl (by dsimp only [setI, setL, List.set]) ?_
    refine z_iload (pc := 10) dX6_begun_10 rfl ?_
    refine z_getsBo (pc := 12) dX6_begun_12 kg_X6_53 ?_
    refine z_rolen (pc := 15) dX6_begun_15 (by decide) (by decide) ?_
    refine z_is2 (pc := 16) dX6_begun_16 ks_X6_45 rfl rfl ?_
    refine c_X10_isBelow (fun q => ?_) (fun q => ?_)
    · skip
      refine z_if_eq (pc := 19) (tgt := 37) dX6_begun_19 rfl (fun hc => absurd hc (by decide)) (fun _ => ?_)
      refine z_aload_n (pc := 22) dX6_begun_22 rfl ?_
      refine z_getsBo (pc := 23) dX6_begun_23 kg_X6_53 ?_
      refine z_iload (pc := 26) dX6_begun_26 rfl ?_
      refine z_roaldN (pc := 28) 0 dX6_begun_28 (by decide) (by decide) (by omega) (by show _ < 20; decide) ?_
      refine z_aload_n (pc := 29) dX6_begun_29 rfl ?_
      refine z_iload_n (pc := 30) dX6_begun_30 rfl ?_
      refine z_iv3 (pc := 31) dX6_begun_31 kv_X6_56 ho hn (by decide) rfl rfl ?_
      refine c_g10 ho hn h6 h7 hT hx0 (by omega) (fun r er => ?_)
      refine z_goto (pc := 34) (tgt := 38) dX6_begun_34 rfl ?_
      refine z_iret (pc := 38) dX6_begun_38 rfl ?_
      rw [ek] at h
      first | (simp only [redOf, redB, hc] at h; exact h r er) | (simp [redOf, redB, hc] at h; exact h r er) | (simp [redOf, redB] at h; exact h r er)
    · skip
      refine z_if_eq (pc := 19) (tgt := 37) dX6_begun_19 rfl (fun _ => ?_) (fun hc => absurd hc (by decide))
      refine z_iconst (pc := 37) (v := 0) dX6_begun_37 (by decide) ?_
      refine z_iret (pc := 38) dX6_begun_38 rfl ?_
      exfalso; omega
  · skip
    refine z_iload_n (pc := 0) dX6_begun_0 rfl ?_
    refine z_iconst (pc := 1) (v := 5) dX6_begun_1 (by decide) ?_
    refine z_imulT (pc := 2) (cx := 0) (cy := 5) dX6_begun_2 (by decide) (by decide) (by omega) (by omega) (fun v2 e2 => ?_)
    refine z_aload_n (pc := 3) dX6_begun_3 rfl ?_
    refine z_getI (pc := 4) dX6_begun_4 fk_X6_18 ho hn (by decide) (by decide) ?_
    refine z_iaddT (pc := 7) dX6_begun_7 rfl rfl (by omega) (by omega) (fun v7 e7 => ?_)
    refine z_istore (pc := 8) dX6_begun_8 rfl rfl (by dsimp only [setI, setL, List.set]) ?_
    refine z_iload (pc := 10) dX6_begun_10 rfl ?_
    refine z_getsBo (pc := 12) dX6_begun_12 kg_X6_53 ?_
    refine z_rolen (pc := 15) dX6_begun_15 (by decide) (by decide) ?_
    refine z_is2 (pc := 16) dX6_begun_16 ks_X6_45 rfl rfl ?_
    refine c_X10_isBelow (fun q => ?_) (fun q => ?_)
    · skip
      refine z_if_eq (pc := 19) (tgt := 37) dX6_begun_19 rfl (fun hc => absurd hc (by decide)) (fun _ => ?_)
      refine z_aload_n (pc := 22) dX6_begun_22 rfl ?_
      refine z_getsBo (pc := 23) dX6_begun_23 kg_X6_53 ?_
      refine z_iload (pc := 26) dX6_begun_26 rfl ?_
      refine z_roaldN (pc := 28) 1 dX6_begun_28 (by decide) (by decide) (by omega) (by show _ < 20; decide) ?_
      refine z_aload_n (pc := 29) dX6_begun_29 rfl ?_
      refine z_iload_n (pc := 30) dX6_begun_30 rfl ?_
      refine z_iv3 (pc := 31) dX6_begun_31 kv_X6_56 ho hn (by decide) rfl rfl ?_
      refine c_g11 ho hn h6 h7 hT hx0 (by omega) (fun r er => ?_)
      refine z_goto (pc := 34) (tgt := 38) dX6_begun_34 rfl ?_
      refine z_iret (pc := 38) dX6_begun_38 rfl ?_
      rw [ek] at h
      first | (simp only [redOf, redB, hc] at h; exact h r er) | (simp [redOf, redB, hc] at h; exact h r er) | (simp [redOf, redB] at h; exact h r er)
    · skip
      refine z_if_eq (pc := 19) (tgt := 37) dX6_begun_19 rfl (fun _ => ?_) (fun hc => absurd hc (by decide))
      refine z_iconst (pc := 37) (v := 0) dX6_begun_37 (by decide) ?_
      refine z_iret (pc := 38) dX6_begun_38 rfl ?_
      exfalso; omega
  · skip
    refine z_iload_n (pc := 0) dX6_begun_0 rfl ?_
    refine z_iconst (pc := 1) (v := 5) dX6_begun_1 (by decide) ?_
    refine z_imulT (pc := 2) (cx := 0) (cy := 5) dX6_begun_2 (by decide) (by decide) (by omega) (by omega) (fun v2 e2 => ?_)
    refine z_aload_n (pc := 3) dX6_begun_3 rfl ?_
    refine z_getI (pc := 4) dX6_begun_4 fk_X6_18 ho hn (by decide) (by decide) ?_
    refine z_iaddT (pc := 7) dX6_begun_7 rfl rfl (by omega) (by omega) (fun v7 e7 => ?_)
    refine z_istore (pc := 8) dX6_begun_8 rfl rfl (by dsimp only [setI, setL, List.set]) ?_
    refine z_iload (pc := 10) dX6_begun_10 rfl ?_
    refine z_getsBo (pc := 12) dX6_begun_12 kg_X6_53 ?_
    refine z_rolen (pc := 15) dX6_begun_15 (by decide) (by decide) ?_
    refine z_is2 (pc := 16) dX6_begun_16 ks_X6_45 rfl rfl ?_
    refine c_X10_isBelow (fun q => ?_) (fun q => ?_)
    · skip
      refine z_if_eq (pc := 19) (tgt := 37) dX6_begun_19 rfl (fun hc => absurd hc (by decide)) (fun _ => ?_)
      refine z_aload_n (pc := 22) dX6_begun_22 rfl ?_
      refine z_getsBo (pc := 23) dX6_begun_23 kg_X6_53 ?_
      refine z_iload (pc := 26) dX6_begun_26 rfl ?_
      refine z_roaldN (pc := 28) 2 dX6_begun_28 (by decide) (by decide) (by omega) (by show _ < 20; decide) ?_
      refine z_aload_n (pc := 29) dX6_begun_29 rfl ?_
      refine z_iload_n (pc := 30) dX6_begun_30 rfl ?_
      refine z_iv3 (pc := 31) dX6_begun_31 kv_X6_56 ho hn (by decide) rfl rfl ?_
      refine c_g10 ho hn h6 h7 hT hx0 (by omega) (fun r er => ?_)
      refine z_goto (pc := 34) (tgt := 38) dX6_begun_34 rfl ?_
      refine z_iret (pc := 38) dX6_begun_38 rfl ?_
      rw [ek] at h
      first | (simp only [redOf, redB, hc] at h; exact h r er) | (simp [redOf, redB, hc] at h; exact h r er) | (simp [redOf, redB] at h; exact h r er)
    · skip
      refine z_if_eq (pc := 19) (tgt := 37) dX6_begun_19 rfl (fun _ => ?_) (fun hc => absurd hc (by decide))
      refine z_iconst (pc := 37) (v := 0) dX6_begun_37 (by decide) ?_
      refine z_iret (pc := 38) dX6_begun_38 rfl ?_
      exfalso; omega
  · skip
    refine z_iload_n (pc := 0) dX6_begun_0 rfl ?_
    refine z_iconst (pc := 1) (v := 5) dX6_begun_1 (by decide) ?_
    refine z_imulT (pc := 2) (cx := 0) (cy := 5) dX6_begun_2 (by decide) (by decide) (by omega) (by omega) (fun v2 e2 => ?_)
    refine z_aload_n (pc := 3) dX6_begun_3 rfl ?_
    refine z_getI (pc := 4) dX6_begun_4 fk_X6_18 ho hn (by decide) (by decide) ?_
    refine z_iaddT (pc := 7) dX6_begun_7 rfl rfl (by omega) (by omega) (fun v7 e7 => ?_)
    refine z_istore (pc := 8) dX6_begun_8 rfl rfl (by dsimp only [setI, setL, List.set]) ?_
    refine z_iload (pc := 10) dX6_begun_10 rfl ?_
    refine z_getsBo (pc := 12) dX6_begun_12 kg_X6_53 ?_
    refine z_rolen (pc := 15) dX6_begun_15 (by decide) (by decide) ?_
    refine z_is2 (pc := 16) dX6_begun_16 ks_X6_45 rfl rfl ?_
    refine c_X10_isBelow (fun q => ?_) (fun q => ?_)
    · skip
      refine z_if_eq (pc := 19) (tgt := 37) dX6_begun_19 rfl (fun hc => absurd hc (by decide)) (fun _ => ?_)
      refine z_aload_n (pc := 22) dX6_begun_22 rfl ?_
      refine z_getsBo (pc := 23) dX6_begun_23 kg_X6_53 ?_
      refine z_iload (pc := 26) dX6_begun_26 rfl ?_
      refine z_roaldN (pc := 28) 3 dX6_begun_28 (by decide) (by decide) (by omega) (by show _ < 20; decide) ?_
      refine z_aload_n (pc := 29) dX6_begun_29 rfl ?_
      refine z_iload_n (pc := 30) dX6_begun_30 rfl ?_
      refine z_iv3 (pc := 31) dX6_begun_31 kv_X6_56 ho hn (by decide) rfl rfl ?_
      refine c_g12 ho hn h6 h7 hT hx0 (by omega) (fun r er => ?_)
      refine z_goto (pc := 34) (tgt := 38) dX6_begun_34 rfl ?_
      refine z_iret (pc := 38) dX6_begun_38 rfl ?_
      rw [ek] at h
      first | (simp only [redOf, redB, hc] at h; exact h r er) | (simp [redOf, redB, hc] at h; exact h r er) | (simp [redOf, redB] at h; exact h r er)
    · skip
      refine z_if_eq (pc := 19) (tgt := 37) dX6_begun_19 rfl (fun _ => ?_) (fun hc => absurd hc (by decide))
      refine z_iconst (pc := 37) (v := 0) dX6_begun_37 (by decide) ?_
      refine z_iret (pc := 38) dX6_begun_38 rfl ?_
      exfalso; omega
  · skip
    refine z_iload_n (pc := 0) dX6_begun_0 rfl ?_
    refine z_iconst (pc := 1) (v := 5) dX6_begun_1 (by decide) ?_
    refine z_imulT (pc := 2) (cx := 0) (cy := 5) dX6_begun_2 (by decide) (by decide) (by omega) (by omega) (fun v2 e2 => ?_)
    refine z_aload_n (pc := 3) dX6_begun_3 rfl ?_
    refine z_getI (pc := 4) dX6_begun_4 fk_X6_18 ho hn (by decide) (by decide) ?_
    refine z_iaddT (pc := 7) dX6_begun_7 rfl rfl (by omega) (by omega) (fun v7 e7 => ?_)
    refine z_istore (pc := 8) dX6_begun_8 rfl rfl (by dsimp only [setI, setL, List.set]) ?_
    refine z_iload (pc := 10) dX6_begun_10 rfl ?_
    refine z_getsBo (pc := 12) dX6_begun_12 kg_X6_53 ?_
    refine z_rolen (pc := 15) dX6_begun_15 (by decide) (by decide) ?_
    refine z_is2 (pc := 16) dX6_begun_16 ks_X6_45 rfl rfl ?_
    refine c_X10_isBelow (fun q => ?_) (fun q => ?_)
    · skip
      refine z_if_eq (pc := 19) (tgt := 37) dX6_begun_19 rfl (fun hc => absurd hc (by decide)) (fun _ => ?_)
      refine z_aload_n (pc := 22) dX6_begun_22 rfl ?_
      refine z_getsBo (pc := 23) dX6_begun_23 kg_X6_53 ?_
      refine z_iload (pc := 26) dX6_begun_26 rfl ?_
      refine z_roaldN (pc := 28) 4 dX6_begun_28 (by decide) (by decide) (by omega) (by show _ < 20; decide) ?_
      refine z_aload_n (pc := 29) dX6_begun_29 rfl ?_
      refine z_iload_n (pc := 30) dX6_begun_30 rfl ?_
      refine z_iv3 (pc := 31) dX6_begun_31 kv_X6_56 ho hn (by decide) rfl rfl ?_
      refine c_g13 ho hn h6 h7 hT hx0 (by omega) (fun hc r er => ?_) (fun hc r er => ?_)
      · skip
        refine z_goto (pc := 34) (tgt := 38) dX6_begun_34 rfl ?_
        refine z_iret (pc := 38) dX6_begun_38 rfl ?_
        rw [ek] at h
        first | (simp only [redOf, redB, hc] at h; exact h r er) | (simp [redOf, redB, hc] at h; exact h r er) | (simp [redOf, redB] at h; exact h r er)
      · skip
        refine z_goto (pc := 34) (tgt := 38) dX6_begun_34 rfl ?_
        refine z_iret (pc := 38) dX6_begun_38 rfl ?_
        rw [ek] at h
        first | (simp only [redOf, redB, hc] at h; exact h r er) | (simp [redOf, redB, hc] at h; exact h r er) | (simp [redOf, redB] at h; exact h r er)
    · skip
      refine z_if_eq (pc := 19) (tgt := 37) dX6_begun_19 rfl (fun _ => ?_) (fun hc => absurd hc (by decide))
      refine z_iconst (pc := 37) (v := 0) dX6_begun_37 (by decide) ?_
      refine z_iret (pc := 38) dX6_begun_38 rfl ?_
      exfalso; omega

theorem c_bBlu {l : Launch} {G : Gx} {d : Nat} {σ : Sg} {Q : Option Value → Sg → Prop} {o t : Nat} {x : Int32} (ho : kd o = 6) (hn : o < 105) (h6 : o ≠ 6) (h7 : o ≠ 7) (hT : TL σ t) (hx0 : 0 ≤ x.toInt) (hx : x.toInt < 7) (hk0 : 0 ≤ (σ.1 o 2).toInt) (hk1 : (σ.1 o 2).toInt < 5) (h : ∀ r : Int32, r.toInt = blueOf (σ.1 o 2).toInt (σ.1 o 3).toInt → Q (some (.int r)) (lvs t σ (bluB (σ.1 o 2).toInt (σ.1 o 3).toInt))) : Z l G M_X6_begun (d + 3) 0 [some (.ref o), some (.int 1), some (.ref t), some (.int x)] [] σ Q := by
  refine z_sub (L' := [some (.ref o), some (.int 1), some (.ref t), some (.int x), none]) ⟨rfl, rfl, rfl, rfl, trivial⟩ ?_
  have h20 : (Int32.ofNat (rol G 107)).toInt = 20 := rfl
  rcases (show (σ.1 o 2).toInt = 0 ∨ (σ.1 o 2).toInt = 1 ∨ (σ.1 o 2).toInt = 2 ∨ (σ.1 o 2).toInt = 3 ∨ (σ.1 o 2).toInt = 4 by omega) with ek | ek | ek | ek | ek
  · skip
    refine z_iload_n (pc := 0) dX6_begun_0 rfl ?_
    refine z_iconst (pc := 1) (v := 5) dX6_begun_1 (by decide) ?_
    refine z_imulT (pc := 2) (cx := 1) (cy := 5) dX6_begun_2 (by decide) (by decide) (by omega) (by omega) (fun v2 e2 => ?_)
    refine z_aload_n (pc := 3) dX6_begun_3 rfl ?_
    refine z_getI (pc := 4) dX6_begun_4 fk_X6_18 ho hn (by decide) (by decide) ?_
    refine z_iaddT (pc := 7) dX6_begun_7 rfl rfl (by omega) (by omega) (fun v7 e7 => ?_)
    refine z_istore (pc := 8) dX6_begun_8 rfl rfl (by dsimp only [setI, setL, List.set]) ?_
    refine z_iload (pc := 10) dX6_begun_10 rfl ?_
    refine z_getsBo (pc := 12) dX6_begun_12 kg_X6_53 ?_
    refine z_rolen (pc := 15) dX6_begun_15 (by decide) (by decide) ?_
    refine z_is2 (pc := 16) dX6_begun_16 ks_X6_45 rfl rfl ?_
    refine c_X10_isBelow (fun q => ?_) (fun q => ?_)
    · skip
      refine z_if_eq (pc := 19) (tgt := 37) dX6_begun_19 rfl (fun hc => absurd hc (by decide)) (fun _ => ?_)
      refine z_aload_n (pc := 22) dX6_begun_22 rfl ?_
      refine z_getsBo (pc := 23) dX6_begun_23 kg_X6_53 ?_
      refine z_iload (pc := 26) dX6_begun_26 rfl ?_
      refine z_roaldN (pc := 28) 5 dX6_begun_28 (by decide) (by decide) (by omega) (by show _ < 20; decide) ?_
      refine z_aload_n (pc := 29) dX6_begun_29 rfl ?_
      refine z_iload_n (pc := 30) dX6_begun_30 rfl ?_
      refine z_iv3 (pc := 31) dX6_begun_31 kv_X6_56 ho hn (by decide) rfl rfl ?_
      refine c_g20 ho hn h6 h7 hT hx0 (by omega) (fun r er => ?_)
      refine z_goto (pc := 34) (tgt := 38) dX6_begun_34 rfl ?_
      refine z_iret (pc := 38) dX6_begun_38 rfl ?_
      rw [ek] at h
      first | (simp only [blueOf, bluB, hc] at h; exact h r er) | (simp [blueOf, bluB, hc] at h; exact h r er) | (simp [blueOf, bluB] at h; exact h r er)
    · skip
      refine z_if_eq (pc := 19) (tgt := 37) dX6_begun_19 rfl (fun _ => ?_) (fun hc => absurd hc (by decide))
      refine z_iconst (pc := 37) (v := 0) dX6_begun_37 (by decide) ?_
      refine z_iret (pc := 38) dX6_begun_38 rfl ?_
      exfalso; omega
  · skip
    refine z_iload_n (pc := 0) dX6_begun_0 rfl ?_
    refine z_iconst (pc := 1) (v := 5) dX6_begun_1 (by decide) ?_
    refine z_imulT (pc := 2) (cx := 1) (cy := 5) dX6_begun_2 (by decide) (by decide) (by omega) (by omega) (fun v2 e2 => ?_)
    refine z_aload_n (pc := 3) dX6_begun_3 rfl ?_
    refine z_getI (pc := 4) dX6_begun_4 fk_X6_18 ho hn (by decide) (by decide) ?_
    refine z_iaddT (pc := 7) dX6_begun_7 rfl rfl (by omega) (by omega) (fun v7 e7 => ?_)
    refine z_istore (pc := 8) dX6_begun_8 rfl rfl (by dsimp only [setI, setL, List.set]) ?_
    refine z_iload (pc := 10) dX6_begun_10 rfl ?_
    refine z_getsBo (pc := 12) dX6_begun_12 kg_X6_53 ?_
    refine z_rolen (pc := 15) dX6_begun_15 (by decide) (by decide) ?_
    refine z_is2 (pc := 16) dX6_begun_16 ks_X6_45 rfl rfl ?_
    refine c_X10_isBelow (fun q => ?_) (fun q => ?_)
    · skip
      refine z_if_eq (pc := 19) (tgt := 37) dX6_begun_19 rfl (fun hc => absurd hc (by decide)) (fun _ => ?_)
      refine z_aload_n (pc := 22) dX6_begun_22 rfl ?_
      refine z_getsBo (pc := 23) dX6_begun_23 kg_X6_53 ?_
      refine z_iload (pc := 26) dX6_begun_26 rfl ?_
      refine z_roaldN (pc := 28) 6 dX6_begun_28 (by decide) (by decide) (by omega) (by show _ < 20; decide) ?_
      refine z_aload_n (pc := 29) dX6_begun_29 rfl ?_
      refine z_iload_n (pc := 30) dX6_begun_30 rfl ?_
      refine z_iv3 (pc := 31) dX6_begun_31 kv_X6_56 ho hn (by decide) rfl rfl ?_
      refine c_g20 ho hn h6 h7 hT hx0 (by omega) (fun r er => ?_)
      refine z_goto (pc := 34) (tgt := 38) dX6_begun_34 rfl ?_
      refine z_iret (pc := 38) dX6_begun_38 rfl ?_
      rw [ek] at h
      first | (simp only [blueOf, bluB, hc] at h; exact h r er) | (simp [blueOf, bluB, hc] at h; exact h r er) | (simp [blueOf, bluB] at h; exact h r er)
    · skip
      refine z_if_eq (pc := 19) (tgt := 37) dX6_begun_19 rfl (fun _ => ?_) (fun hc => absurd hc (by decide))
      refine z_iconst (pc := 37) (v := 0) dX6_begun_37 (by decide) ?_
      refine z_iret (pc := 38) dX6_begun_38 rfl ?_
      exfalso; omega
  · skip
    refine z_iload_n (pc := 0) dX6_begun_0 rfl ?_
    refine z_iconst (pc := 1) (v := 5) dX6_begun_1 (by decide) ?_
    refine z_imulT (pc := 2) (cx := 1) (cy := 5) dX6_begun_2 (by decide) (by decide) (by omega) (by omega) (fun v2 e2 => ?_)
    refine z_aload_n (pc := 3) dX6_begun_3 rfl ?_
    refine z_getI (pc := 4) dX6_begun_4 fk_X6_18 ho hn (by decide) (by decide) ?_
    refine z_iaddT (pc := 7) dX6_begun_7 rfl rfl (by omega) (by omega) (fun v7 e7 => ?_)
    refine z_istore (pc := 8) dX6_begun_8 rfl rfl (by dsimp only [setI, setL, List.set]) ?_
    refine z_iload (pc := 10) dX6_begun_10 rfl ?_
    refine z_getsBo (pc := 12) dX6_begun_12 kg_X6_53 ?_
    refine z_rolen (pc := 15) dX6_begun_15 (by decide) (by decide) ?_
    refine z_is2 (pc := 16) dX6_begun_16 ks_X6_45 rfl rfl ?_
    refine c_X10_isBelow (fun q => ?_) (fun q => ?_)
    · skip
      refine z_if_eq (pc := 19) (tgt := 37) dX6_begun_19 rfl (fun hc => absurd hc (by decide)) (fun _ => ?_)
      refine z_aload_n (pc := 22) dX6_begun_22 rfl ?_
      refine z_getsBo (pc := 23) dX6_begun_23 kg_X6_53 ?_
      refine z_iload (pc := 26) dX6_begun_26 rfl ?_
      refine z_roaldN (pc := 28) 7 dX6_begun_28 (by decide) (by decide) (by omega) (by show _ < 20; decide) ?_
      refine z_aload_n (pc := 29) dX6_begun_29 rfl ?_
      refine z_iload_n (pc := 30) dX6_begun_30 rfl ?_
      refine z_iv3 (pc := 31) dX6_begun_31 kv_X6_56 ho hn (by decide) rfl rfl ?_
      refine c_g21 ho hn h6 h7 hT hx0 (by omega) (fun r er => ?_)
      refine z_goto (pc := 34) (tgt := 38) dX6_begun_34 rfl ?_
      refine z_iret (pc := 38) dX6_begun_38 rfl ?_
      rw [ek] at h
      first | (simp only [blueOf, bluB, hc] at h; exact h r er) | (simp [blueOf, bluB, hc] at h; exact h r er) | (simp [blueOf, bluB] at h; exact h r er)
    · skip
      refine z_if_eq (pc := 19) (tgt := 37) dX6_begun_19 rfl (fun _ => ?_) (fun hc => absurd hc (by decide))
      refine z_iconst (pc := 37) (v := 0) dX6_begun_37 (by decide) ?_
      refine z_iret (pc := 38) dX6_begun_38 rfl ?_
      exfalso; omega
  · skip
    refine z_iload_n (pc := 0) dX6_begun_0 rfl ?_
    refine z_iconst (pc := 1) (v := 5) dX6_begun_1 (by decide) ?_
    refine z_imulT (pc := 2) (cx := 1) (cy := 5) dX6_begun_2 (by decide) (by decide) (by omega) (by omega) (fun v2 e2 => ?_)
    refine z_aload_n (pc := 3) dX6_begun_3 rfl ?_
    refine z_getI (pc := 4) dX6_begun_4 fk_X6_18 ho hn (by decide) (by decide) ?_
    refine z_iaddT (pc := 7) dX6_begun_7 rfl rfl (by omega) (by omega) (fun v7 e7 => ?_)
    refine z_istore (pc := 8) dX6_begun_8 rfl rfl (by dsimp only [setI, setL, List.set]) ?_
    refine z_iload (pc := 10) dX6_begun_10 rfl ?_
    refine z_getsBo (pc := 12) dX6_begun_12 kg_X6_53 ?_
    refine z_rolen (pc := 15) dX6_begun_15 (by decide) (by decide) ?_
    refine z_is2 (pc := 16) dX6_begun_16 ks_X6_45 rfl rfl ?_
    refine c_X10_isBelow (fun q => ?_) (fun q => ?_)
    · skip
      refine z_if_eq (pc := 19) (tgt := 37) dX6_begun_19 rfl (fun hc => absurd hc (by decide)) (fun _ => ?_)
      refine z_aload_n (pc := 22) dX6_begun_22 rfl ?_
      refine z_getsBo (pc := 23) dX6_begun_23 kg_X6_53 ?_
      refine z_iload (pc := 26) dX6_begun_26 rfl ?_
      refine z_roaldN (pc := 28) 8 dX6_begun_28 (by decide) (by decide) (by omega) (by show _ < 20; decide) ?_
      refine z_aload_n (pc := 29) dX6_begun_29 rfl ?_
      refine z_iload_n (pc := 30) dX6_begun_30 rfl ?_
      refine z_iv3 (pc := 31) dX6_begun_31 kv_X6_56 ho hn (by decide) rfl rfl ?_
      refine c_g20 ho hn h6 h7 hT hx0 (by omega) (fun r er => ?_)
      refine z_goto (pc := 34) (tgt := 38) dX6_begun_34 rfl ?_
      refine z_iret (pc := 38) dX6_begun_38 rfl ?_
      rw [ek] at h
      first | (simp only [blueOf, bluB, hc] at h; exact h r er) | (simp [blueOf, bluB, hc] at h; exact h r er) | (simp [blueOf, bluB] at h; exact h r er)
    · skip
      refine z_if_eq (pc := 19) (tgt := 37) dX6_begun_19 rfl (fun _ => ?_) (fun hc => absurd hc (by decide))
      refine z_iconst (pc := 37) (v := 0) dX6_begun_37 (by decide) ?_
      refine z_iret (pc := 38) dX6_begun_38 rfl ?_
      exfalso; omega
  · skip
    refine z_iload_n (pc := 0) dX6_begun_0 rfl ?_
    refine z_iconst (pc := 1) (v := 5) dX6_begun_1 (by decide) ?_
    refine z_imulT (pc := 2) (cx := 1) (cy := 5) dX6_begun_2 (by decide) (by decide) (by omega) (by omega) (fun v2 e2 => ?_)
    refine z_aload_n (pc := 3) dX6_begun_3 rfl ?_
    refine z_getI (pc := 4) dX6_begun_4 fk_X6_18 ho hn (by decide) (by decide) ?_
    refine z_iaddT (pc := 7) dX6_begun_7 rfl rfl (by omega) (by omega) (fun v7 e7 => ?_)
    refine z_istore (pc := 8) dX6_begun_8 rfl rfl (by dsimp only [setI, setL, List.set]) ?_
    refine z_iload (pc := 10) dX6_begun_10 rfl ?_
    refine z_getsBo (pc := 12) dX6_begun_12 kg_X6_53 ?_
    refine z_rolen (pc := 15) dX6_begun_15 (by decide) (by decide) ?_
    refine z_is2 (pc := 16) dX6_begun_16 ks_X6_45 rfl rfl ?_
    refine c_X10_isBelow (fun q => ?_) (fun q => ?_)
    · skip
      refine z_if_eq (pc := 19) (tgt := 37) dX6_begun_19 rfl (fun hc => absurd hc (by decide)) (fun _ => ?_)
      refine z_aload_n (pc := 22) dX6_begun_22 rfl ?_
      refine z_getsBo (pc := 23) dX6_begun_23 kg_X6_53 ?_
      refine z_iload (pc := 26) dX6_begun_26 rfl ?_
      refine z_roaldN (pc := 28) 9 dX6_begun_28 (by decide) (by decide) (by omega) (by show _ < 20; decide) ?_
      refine z_aload_n (pc := 29) dX6_begun_29 rfl ?_
      refine z_iload_n (pc := 30) dX6_begun_30 rfl ?_
      refine z_iv3 (pc := 31) dX6_begun_31 kv_X6_56 ho hn (by decide) rfl rfl ?_
      refine c_g22 ho hn h6 h7 hT hx0 (by omega) (fun hc r er => ?_) (fun hc r er => ?_)
      · skip
        refine z_goto (pc := 34) (tgt := 38) dX6_begun_34 rfl ?_
        refine z_iret (pc := 38) dX6_begun_38 rfl ?_
        rw [ek] at h
        first | (simp only [blueOf, bluB, hc] at h; exact h r er) | (simp [blueOf, bluB, hc] at h; exact h r er) | (simp [blueOf, bluB] at h; exact h r er)
      · skip
        refine z_goto (pc := 34) (tgt := 38) dX6_begun_34 rfl ?_
        refine z_iret (pc := 38) dX6_begun_38 rfl ?_
        rw [ek] at h
        first | (simp only [blueOf, bluB, hc] at h; exact h r er) | (simp [blueOf, bluB, hc] at h; exact h r er) | (simp [blueOf, bluB] at h; exact h r er)
    · skip
      refine z_if_eq (pc := 19) (tgt := 37) dX6_begun_19 rfl (fun _ => ?_) (fun hc => absurd hc (by decide))
      refine z_iconst (pc := 37) (v := 0) dX6_begun_37 (by decide) ?_
      refine z_iret (pc := 38) dX6_begun_38 rfl ?_
      exfalso; omega

theorem red_rng (k c : Int) : 0 ≤ redOf k c ∧ redOf k c ≤ 2 := by
  unfold redOf
  repeat' split
  all_goals omega
theorem blu_rng (k c : Int) : 0 ≤ blueOf k c ∧ blueOf k c ≤ 1 := by
  unfold blueOf
  repeat' split
  all_goals omega
theorem len_rng (k c : Int) : 1 ≤ lentOf k c ∧ lentOf k c ≤ 3 := by
  have := red_rng k c
  have := blu_rng k c
  unfold lentOf
  split <;> omega
theorem all_rng (k c : Int) : 1 ≤ allOf k c ∧ allOf k c ≤ 4 := by
  have := len_rng k c
  unfold allOf
  split <;> omega

theorem c_g30 {l : Launch} {G : Gx} {d : Nat} {σ : Sg} {Q : Option Value → Sg → Prop} {o t : Nat} {x : Int32} (ho : kd o = 6) (hn : o < 105) (h6 : o ≠ 6) (h7 : o ≠ 7) (hT : TL σ t) (hx0 : 0 ≤ x.toInt) (hx : x.toInt < 6) (hk0 : 0 ≤ (σ.1 o 2).toInt) (hk1 : (σ.1 o 2).toInt < 5) (h : ∀ r : Int32, r.toInt = lentOf (σ.1 o 2).toInt (σ.1 o 3).toInt → Q (some (.int r)) (lvs t σ (lenB (σ.1 o 2).toInt (σ.1 o 3).toInt))) : Z l G M_X6_gives (d + 4) 0 [some (.ref o), some (.int 30), some (.ref t), some (.int x)] [] σ Q := by
  refine z_sub (L' := [some (.ref o), some (.int 30), some (.ref t), some (.int x), none]) ⟨rfl, rfl, rfl, rfl, trivial⟩ ?_
  refine z_iload_n (pc := 0) dX6_gives_0 rfl ?_
  refine z_bipush (pc := 1) (v := 8) dX6_gives_1 (by decide) ?_
  refine zq_icmp_lt (pc := 3) (cy := 8) (tgt := 8) dX6_gives_3 rfl rfl (by decide) (fun h3 => ?_) (fun h3 => ?_)
  · skip
    refine z_aload_n (pc := 8) dX6_gives_8 rfl ?_
    refine z_iload_n (pc := 9) dX6_gives_9 rfl ?_
    refine z_iv1 (pc := 10) dX6_gives_10 kv_X6_59 (TL_kd hT).1 (TL_kd hT).2 (by decide) rfl rfl ?_
    refine c_leave hT ?_
    refine z_iload_n (pc := 13) dX6_gives_13 rfl ?_
    refine z_iconst (pc := 14) (v := 1) dX6_gives_14 (by decide) ?_
    refine z_iaddT (pc := 15) (cy := 1) dX6_gives_15 rfl (by decide) (by omega) (by omega) (fun v15 e15 => ?_)
    refine z_istore (pc := 16) dX6_gives_16 rfl rfl (by dsimp only [setI, setL, List.set]) ?_
    refine z_iload_n (pc := 18) dX6_gives_18 rfl ?_
    refine zq_swIn (pc := 19) (c := 30) (tgt := 218) dX6_gives_19 (by decide) (by decide) (by decide) rfl rfl ?_
    refine z_iconst (pc := 218) (v := 1) dX6_gives_218 (by decide) ?_
    refine z_aload_n (pc := 219) dX6_gives_219 rfl ?_
    refine z_iconst (pc := 220) (v := 0) dX6_gives_220 (by decide) ?_
    refine z_aload_n (pc := 221) dX6_gives_221 rfl ?_
    refine z_iload (pc := 222) dX6_gives_222 rfl ?_
    refine z_iv3 (pc := 224) dX6_gives_224 kv_X6_32 ho hn (by decide) rfl rfl ?_
    have e2 : (lvT t σ 30).1 o 2 = σ.1 o 2 := by rw [lvT_row h6 h7]
    have e3 : (lvT t σ 30).1 o 3 = σ.1 o 3 := by rw [lvT_row h6 h7]
    refine c_bRed ho hn h6 h7 (lvT_TL hT) (by omega) (by omega) (by rw [e2]; exact hk0) (by rw [e2]; exact hk1) (fun rr err => ?_)
    rw [e2, e3] at err ⊢
    refine z_aload_n (pc := 227) dX6_gives_227 rfl ?_
    refine z_iconst (pc := 228) (v := 1) dX6_gives_228 (by decide) ?_
    refine z_aload_n (pc := 229) dX6_gives_229 rfl ?_
    refine z_iload (pc := 230) dX6_gives_230 rfl ?_
    refine z_iv3 (pc := 232) dX6_gives_232 kv_X6_32 ho hn (by decide) rfl rfl ?_
    have e2' : (lvs t (lvT t σ 30) (redB (σ.1 o 2).toInt (σ.1 o 3).toInt)).1 o 2 = σ.1 o 2 := by rw [lvs_row h6 h7, lvT_row h6 h7]
    have e3' : (lvs t (lvT t σ 30) (redB (σ.1 o 2).toInt (σ.1 o 3).toInt)).1 o 3 = σ.1 o 3 := by rw [lvs_row h6 h7, lvT_row h6 h7]
    refine c_bBlu ho hn h6 h7 (lvs_TL _ _ (lvT_TL hT)) (by omega) (by omega) (by rw [e2']; exact hk0) (by rw [e2']; exact hk1) (fun rb erb => ?_)
    rw [e2', e3'] at erb ⊢
    have hr1 := red_rng (σ.1 o 2).toInt (σ.1 o 3).toInt
    have hb1 := blu_rng (σ.1 o 2).toInt (σ.1 o 3).toInt
    refine z_iaddT (pc := 235) dX6_gives_235 rfl rfl (by omega) (by omega) (fun v235 e235 => ?_)
    refine z_mmaxi (pc := 236) dX6_gives_236 kj_X6_65 rfl ?_
    refine z_iret (pc := 239) dX6_gives_239 rfl ?_
    rw [← lvs_app, ← lvs_cons]
    refine h _ ?_
    have one : (1 : Int32).toInt = 1 := rfl
    unfold lentOf
    split
    · rename_i hlt
      have := Int32.lt_iff_toInt_lt.mp hlt
      rw [if_neg (by omega)]; omega
    · rename_i hlt
      have := mt Int32.lt_iff_toInt_lt.mpr hlt
      by_cases h0 : redOf (σ.1 o 2).toInt (σ.1 o 3).toInt + blueOf (σ.1 o 2).toInt (σ.1 o 3).toInt = 0
      · rw [if_pos h0]; rfl
      · rw [if_neg h0]; omega
  · skip
    refine z_iconst (pc := 6) (v := 0) dX6_gives_6 (by decide) ?_
    refine z_iret (pc := 7) dX6_gives_7 rfl ?_
    exfalso; omega

theorem c_g31 {l : Launch} {G : Gx} {d : Nat} {σ : Sg} {Q : Option Value → Sg → Prop} {o t : Nat} {x : Int32} (ho : kd o = 6) (hn : o < 105) (h6 : o ≠ 6) (h7 : o ≠ 7) (hT : TL σ t) (hx0 : 0 ≤ x.toInt) (hx : x.toInt < 5) (hk0 : 0 ≤ (σ.1 o 2).toInt) (hk1 : (σ.1 o 2).toInt < 5) (h : ∀ r : Int32, r.toInt = 1 + lentOf (σ.1 o 2).toInt (σ.1 o 3).toInt → Q (some (.int r)) (lvs t σ (31 :: lenB (σ.1 o 2).toInt (σ.1 o 3).toInt))) : Z l G M_X6_gives (d + 5) 0 [some (.ref o), some (.int 31), some (.ref t), some (.int x)] [] σ Q := by
  refine z_sub (L' := [some (.ref o), some (.int 31), some (.ref t), some (.int x), none]) ⟨rfl, rfl, rfl, rfl, trivial⟩ ?_
  refine z_iload_n (pc := 0) dX6_gives_0 rfl ?_
  refine z_bipush (pc := 1) (v := 8) dX6_gives_1 (by decide) ?_
  refine zq_icmp_lt (pc := 3) (cy := 8) (tgt := 8) dX6_gives_3 rfl rfl (by decide) (fun h3 => ?_) (fun h3 => ?_)
  · skip
    refine z_aload_n (pc := 8) dX6_gives_8 rfl ?_
    refine z_iload_n (pc := 9) dX6_gives_9 rfl ?_
    refine z_iv1 (pc := 10) dX6_gives_10 kv_X6_59 (TL_kd hT).1 (TL_kd hT).2 (by decide) rfl rfl ?_
    refine c_leave hT ?_
    refine z_iload_n (pc := 13) dX6_gives_13 rfl ?_
    refine z_iconst (pc := 14) (v := 1) dX6_gives_14 (by decide) ?_
    refine z_iaddT (pc := 15) (cy := 1) dX6_gives_15 rfl (by decide) (by omega) (by omega) (fun v15 e15 => ?_)
    refine z_istore (pc := 16) dX6_gives_16 rfl rfl (by dsimp only [setI, setL, List.set]) ?_
    refine z_iload_n (pc := 18) dX6_gives_18 rfl ?_
    refine zq_swIn (pc := 19) (c := 31) (tgt := 240) dX6_gives_19 (by decide) (by decide) (by decide) rfl rfl ?_
    refine z_iconst (pc := 240) (v := 1) dX6_gives_240 (by decide) ?_
    refine z_aload_n (pc := 241) dX6_gives_241 rfl ?_
    refine z_bipush (pc := 242) (v := 30) dX6_gives_242 (by decide) ?_
    refine z_aload_n (pc := 244) dX6_gives_244 rfl ?_
    refine z_iload (pc := 245) dX6_gives_245 rfl ?_
    refine z_iv3 (pc := 247) dX6_gives_247 kv_X6_56 ho hn (by decide) rfl rfl ?_
    have e2 : (lvT t σ 31).1 o 2 = σ.1 o 2 := by rw [lvT_row h6 h7]
    have e3 : (lvT t σ 31).1 o 3 = σ.1 o 3 := by rw [lvT_row h6 h7]
    refine c_g30 ho hn h6 h7 (lvT_TL hT) (by omega) (by omega) (by rw [e2]; exact hk0) (by rw [e2]; exact hk1) (fun rl erl => ?_)
    rw [e2, e3] at erl ⊢
    have hl1 := len_rng (σ.1 o 2).toInt (σ.1 o 3).toInt
    refine z_iaddT (pc := 250) (cx := 1) dX6_gives_250 (by decide) rfl (by omega) (by omega) (fun v250 e250 => ?_)
    refine z_iret (pc := 251) dX6_gives_251 rfl ?_
    exact h _ (by omega)
  · skip
    refine z_iconst (pc := 6) (v := 0) dX6_gives_6 (by decide) ?_
    refine z_iret (pc := 7) dX6_gives_7 rfl ?_
    exfalso; omega

theorem c_g42 {l : Launch} {G : Gx} {d : Nat} {σ : Sg} {Q : Option Value → Sg → Prop} {o t : Nat} {x : Int32} (ho : kd o = 6) (hn : o < 105) (h6 : o ≠ 6) (h7 : o ≠ 7) (hT : TL σ t) (hx0 : 0 ≤ x.toInt) (hx : x.toInt < 5) (hk0 : 0 ≤ (σ.1 o 2).toInt) (hk1 : (σ.1 o 2).toInt < 5) (h : ∀ r : Int32, r.toInt = lentOf (σ.1 o 2).toInt (σ.1 o 3).toInt → Q (some (.int r)) (lvs t σ (42 :: lenB (σ.1 o 2).toInt (σ.1 o 3).toInt))) : Z l G M_X6_gives (d + 5) 0 [some (.ref o), some (.int 42), some (.ref t), some (.int x)] [] σ Q := by
  refine z_sub (L' := [some (.ref o), some (.int 42), some (.ref t), some (.int x), none]) ⟨rfl, rfl, rfl, rfl, trivial⟩ ?_
  refine z_iload_n (pc := 0) dX6_gives_0 rfl ?_
  refine z_bipush (pc := 1) (v := 8) dX6_gives_1 (by decide) ?_
  refine zq_icmp_lt (pc := 3) (cy := 8) (tgt := 8) dX6_gives_3 rfl rfl (by decide) (fun h3 => ?_) (fun h3 => ?_)
  · skip
    refine z_aload_n (pc := 8) dX6_gives_8 rfl ?_
    refine z_iload_n (pc := 9) dX6_gives_9 rfl ?_
    refine z_iv1 (pc := 10) dX6_gives_10 kv_X6_59 (TL_kd hT).1 (TL_kd hT).2 (by decide) rfl rfl ?_
    refine c_leave hT ?_
    refine z_iload_n (pc := 13) dX6_gives_13 rfl ?_
    refine z_iconst (pc := 14) (v := 1) dX6_gives_14 (by decide) ?_
    refine z_iaddT (pc := 15) (cy := 1) dX6_gives_15 rfl (by decide) (by omega) (by omega) (fun v15 e15 => ?_)
    refine z_istore (pc := 16) dX6_gives_16 rfl rfl (by dsimp only [setI, setL, List.set]) ?_
    refine z_iload_n (pc := 18) dX6_gives_18 rfl ?_
    refine zq_swIn (pc := 19) (c := 42) (tgt := 276) dX6_gives_19 (by decide) (by decide) (by decide) rfl rfl ?_
    refine z_aload_n (pc := 276) dX6_gives_276 rfl ?_
    refine z_bipush (pc := 277) (v := 30) dX6_gives_277 (by decide) ?_
    refine z_aload_n (pc := 279) dX6_gives_279 rfl ?_
    refine z_iload (pc := 280) dX6_gives_280 rfl ?_
    refine z_iv3 (pc := 282) dX6_gives_282 kv_X6_56 ho hn (by decide) rfl rfl ?_
    have e2 : (lvT t σ 42).1 o 2 = σ.1 o 2 := by rw [lvT_row h6 h7]
    have e3 : (lvT t σ 42).1 o 3 = σ.1 o 3 := by rw [lvT_row h6 h7]
    refine c_g30 ho hn h6 h7 (lvT_TL hT) (by omega) (by omega) (by rw [e2]; exact hk0) (by rw [e2]; exact hk1) (fun rl erl => ?_)
    rw [e2, e3] at erl ⊢
    have hl1 := len_rng (σ.1 o 2).toInt (σ.1 o 3).toInt
    refine z_iret (pc := 285) dX6_gives_285 rfl ?_
    exact h _ (by omega)
  · skip
    refine z_iconst (pc := 6) (v := 0) dX6_gives_6 (by decide) ?_
    refine z_iret (pc := 7) dX6_gives_7 rfl ?_
    exfalso; omega

theorem c_bAll {l : Launch} {G : Gx} {d : Nat} {σ : Sg} {Q : Option Value → Sg → Prop} {o t : Nat} {x : Int32} (ho : kd o = 6) (hn : o < 105) (h6 : o ≠ 6) (h7 : o ≠ 7) (hT : TL σ t) (hx0 : 0 ≤ x.toInt) (hx : x.toInt < 4) (hk0 : 0 ≤ (σ.1 o 2).toInt) (hk1 : (σ.1 o 2).toInt < 5) (h : ∀ r : Int32, r.toInt = allOf (σ.1 o 2).toInt (σ.1 o 3).toInt → Q (some (.int r)) (lvs t σ (allB (σ.1 o 2).toInt (σ.1 o 3).toInt))) : Z l G M_X6_begun (d + 6) 0 [some (.ref o), some (.int 2), some (.ref t), some (.int x)] [] σ Q := by
  refine z_sub (L' := [some (.ref o), some (.int 2), some (.ref t), some (.int x), none]) ⟨rfl, rfl, rfl, rfl, trivial⟩ ?_
  have h20 : (Int32.ofNat (rol G 107)).toInt = 20 := rfl
  rcases (show (σ.1 o 2).toInt = 0 ∨ (σ.1 o 2).toInt = 1 ∨ (σ.1 o 2).toInt = 2 ∨ (σ.1 o 2).toInt = 3 ∨ (σ.1 o 2).toInt = 4 by omega) with ek | ek | ek | ek | ek
  · skip
    refine z_iload_n (pc := 0) dX6_begun_0 rfl ?_
    refine z_iconst (pc := 1) (v := 5) dX6_begun_1 (by decide) ?_
    refine z_imulT (pc := 2) (cx := 2) (cy := 5) dX6_begun_2 (by decide) (by decide) (by omega) (by omega) (fun v2 e2 => ?_)
    refine z_aload_n (pc := 3) dX6_begun_3 rfl ?_
    refine z_getI (pc := 4) dX6_begun_4 fk_X6_18 ho hn (by decide) (by decide) ?_
    refine z_iaddT (pc := 7) dX6_begun_7 rfl rfl (by omega) (by omega) (fun v7 e7 => ?_)
    refine z_istore (pc := 8) dX6_begun_8 rfl rfl (by dsimp only [setI, setL, List.set]) ?_
    refine z_iload (pc := 10) dX6_begun_10 rfl ?_
    refine z_getsBo (pc := 12) dX6_begun_12 kg_X6_53 ?_
    refine z_rolen (pc := 15) dX6_begun_15 (by decide) (by decide) ?_
    refine z_is2 (pc := 16) dX6_begun_16 ks_X6_45 rfl rfl ?_
    refine c_X10_isBelow (fun q => ?_) (fun q => ?_)
    · skip
      refine z_if_eq (pc := 19) (tgt := 37) dX6_begun_19 rfl (fun hc => absurd hc (by decide)) (fun _ => ?_)
      refine z_aload_n (pc := 22) dX6_begun_22 rfl ?_
      refine z_getsBo (pc := 23) dX6_begun_23 kg_X6_53 ?_
      refine z_iload (pc := 26) dX6_begun_26 rfl ?_
      refine z_roaldN (pc := 28) 10 dX6_begun_28 (by decide) (by decide) (by omega) (by show _ < 20; decide) ?_
      refine z_aload_n (pc := 29) dX6_begun_29 rfl ?_
      refine z_iload_n (pc := 30) dX6_begun_30 rfl ?_
      refine z_iv3 (pc := 31) dX6_begun_31 kv_X6_56 ho hn (by decide) rfl rfl ?_
      refine c_g30 ho hn h6 h7 hT hx0 (by omega) hk0 hk1 (fun r er => ?_)
      refine z_goto (pc := 34) (tgt := 38) dX6_begun_34 rfl ?_
      refine z_iret (pc := 38) dX6_begun_38 rfl ?_
      rw [ek] at h er ⊢
      simp only [allOf, allB, if_neg (show ¬ (0 : Int) = 3 by decide)] at h
      exact h r er
    · skip
      refine z_if_eq (pc := 19) (tgt := 37) dX6_begun_19 rfl (fun _ => ?_) (fun hc => absurd hc (by decide))
      refine z_iconst (pc := 37) (v := 0) dX6_begun_37 (by decide) ?_
      refine z_iret (pc := 38) dX6_begun_38 rfl ?_
      exfalso; omega
  · skip
    refine z_iload_n (pc := 0) dX6_begun_0 rfl ?_
    refine z_iconst (pc := 1) (v := 5) dX6_begun_1 (by decide) ?_
    refine z_imulT (pc := 2) (cx := 2) (cy := 5) dX6_begun_2 (by decide) (by decide) (by omega) (by omega) (fun v2 e2 => ?_)
    refine z_aload_n (pc := 3) dX6_begun_3 rfl ?_
    refine z_getI (pc := 4) dX6_begun_4 fk_X6_18 ho hn (by decide) (by decide) ?_
    refine z_iaddT (pc := 7) dX6_begun_7 rfl rfl (by omega) (by omega) (fun v7 e7 => ?_)
    refine z_istore (pc := 8) dX6_begun_8 rfl rfl (by dsimp only [setI, setL, List.set]) ?_
    refine z_iload (pc := 10) dX6_begun_10 rfl ?_
    refine z_getsBo (pc := 12) dX6_begun_12 kg_X6_53 ?_
    refine z_rolen (pc := 15) dX6_begun_15 (by decide) (by decide) ?_
    refine z_is2 (pc := 16) dX6_begun_16 ks_X6_45 rfl rfl ?_
    refine c_X10_isBelow (fun q => ?_) (fun q => ?_)
    · skip
      refine z_if_eq (pc := 19) (tgt := 37) dX6_begun_19 rfl (fun hc => absurd hc (by decide)) (fun _ => ?_)
      refine z_aload_n (pc := 22) dX6_begun_22 rfl ?_
      refine z_getsBo (pc := 23) dX6_begun_23 kg_X6_53 ?_
      refine z_iload (pc := 26) dX6_begun_26 rfl ?_
      refine z_roaldN (pc := 28) 11 dX6_begun_28 (by decide) (by decide) (by omega) (by show _ < 20; decide) ?_
      refine z_aload_n (pc := 29) dX6_begun_29 rfl ?_
      refine z_iload_n (pc := 30) dX6_begun_30 rfl ?_
      refine z_iv3 (pc := 31) dX6_begun_31 kv_X6_56 ho hn (by decide) rfl rfl ?_
      refine c_g30 ho hn h6 h7 hT hx0 (by omega) hk0 hk1 (fun r er => ?_)
      refine z_goto (pc := 34) (tgt := 38) dX6_begun_34 rfl ?_
      refine z_iret (pc := 38) dX6_begun_38 rfl ?_
      rw [ek] at h er ⊢
      simp only [allOf, allB, if_neg (show ¬ (1 : Int) = 3 by decide)] at h
      exact h r er
    · skip
      refine z_if_eq (pc := 19) (tgt := 37) dX6_begun_19 rfl (fun _ => ?_) (fun hc => absurd hc (by decide))
      refine z_iconst (pc := 37) (v := 0) dX6_begun_37 (by decide) ?_
      refine z_iret (pc := 38) dX6_begun_38 rfl ?_
      exfalso; omega
  · skip
    refine z_iload_n (pc := 0) dX6_begun_0 rfl ?_
    refine z_iconst (pc := 1) (v := 5) dX6_begun_1 (by decide) ?_
    refine z_imulT (pc := 2) (cx := 2) (cy := 5) dX6_begun_2 (by decide) (by decide) (by omega) (by omega) (fun v2 e2 => ?_)
    refine z_aload_n (pc := 3) dX6_begun_3 rfl ?_
    refine z_getI (pc := 4) dX6_begun_4 fk_X6_18 ho hn (by decide) (by decide) ?_
    refine z_iaddT (pc := 7) dX6_begun_7 rfl rfl (by omega) (by omega) (fun v7 e7 => ?_)
    refine z_istore (pc := 8) dX6_begun_8 rfl rfl (by dsimp only [setI, setL, List.set]) ?_
    refine z_iload (pc := 10) dX6_begun_10 rfl ?_
    refine z_getsBo (pc := 12) dX6_begun_12 kg_X6_53 ?_
    refine z_rolen (pc := 15) dX6_begun_15 (by decide) (by decide) ?_
    refine z_is2 (pc := 16) dX6_begun_16 ks_X6_45 rfl rfl ?_
    refine c_X10_isBelow (fun q => ?_) (fun q => ?_)
    · skip
      refine z_if_eq (pc := 19) (tgt := 37) dX6_begun_19 rfl (fun hc => absurd hc (by decide)) (fun _ => ?_)
      refine z_aload_n (pc := 22) dX6_begun_22 rfl ?_
      refine z_getsBo (pc := 23) dX6_begun_23 kg_X6_53 ?_
      refine z_iload (pc := 26) dX6_begun_26 rfl ?_
      refine z_roaldN (pc := 28) 12 dX6_begun_28 (by decide) (by decide) (by omega) (by show _ < 20; decide) ?_
      refine z_aload_n (pc := 29) dX6_begun_29 rfl ?_
      refine z_iload_n (pc := 30) dX6_begun_30 rfl ?_
      refine z_iv3 (pc := 31) dX6_begun_31 kv_X6_56 ho hn (by decide) rfl rfl ?_
      refine c_g30 ho hn h6 h7 hT hx0 (by omega) hk0 hk1 (fun r er => ?_)
      refine z_goto (pc := 34) (tgt := 38) dX6_begun_34 rfl ?_
      refine z_iret (pc := 38) dX6_begun_38 rfl ?_
      rw [ek] at h er ⊢
      simp only [allOf, allB, if_neg (show ¬ (2 : Int) = 3 by decide)] at h
      exact h r er
    · skip
      refine z_if_eq (pc := 19) (tgt := 37) dX6_begun_19 rfl (fun _ => ?_) (fun hc => absurd hc (by decide))
      refine z_iconst (pc := 37) (v := 0) dX6_begun_37 (by decide) ?_
      refine z_iret (pc := 38) dX6_begun_38 rfl ?_
      exfalso; omega
  · skip
    refine z_iload_n (pc := 0) dX6_begun_0 rfl ?_
    refine z_iconst (pc := 1) (v := 5) dX6_begun_1 (by decide) ?_
    refine z_imulT (pc := 2) (cx := 2) (cy := 5) dX6_begun_2 (by decide) (by decide) (by omega) (by omega) (fun v2 e2 => ?_)
    refine z_aload_n (pc := 3) dX6_begun_3 rfl ?_
    refine z_getI (pc := 4) dX6_begun_4 fk_X6_18 ho hn (by decide) (by decide) ?_
    refine z_iaddT (pc := 7) dX6_begun_7 rfl rfl (by omega) (by omega) (fun v7 e7 => ?_)
    refine z_istore (pc := 8) dX6_begun_8 rfl rfl (by dsimp only [setI, setL, List.set]) ?_
    refine z_iload (pc := 10) dX6_begun_10 rfl ?_
    refine z_getsBo (pc := 12) dX6_begun_12 kg_X6_53 ?_
    refine z_rolen (pc := 15) dX6_begun_15 (by decide) (by decide) ?_
    refine z_is2 (pc := 16) dX6_begun_16 ks_X6_45 rfl rfl ?_
    refine c_X10_isBelow (fun q => ?_) (fun q => ?_)
    · skip
      refine z_if_eq (pc := 19) (tgt := 37) dX6_begun_19 rfl (fun hc => absurd hc (by decide)) (fun _ => ?_)
      refine z_aload_n (pc := 22) dX6_begun_22 rfl ?_
      refine z_getsBo (pc := 23) dX6_begun_23 kg_X6_53 ?_
      refine z_iload (pc := 26) dX6_begun_26 rfl ?_
      refine z_roaldN (pc := 28) 13 dX6_begun_28 (by decide) (by decide) (by omega) (by show _ < 20; decide) ?_
      refine z_aload_n (pc := 29) dX6_begun_29 rfl ?_
      refine z_iload_n (pc := 30) dX6_begun_30 rfl ?_
      refine z_iv3 (pc := 31) dX6_begun_31 kv_X6_56 ho hn (by decide) rfl rfl ?_
      refine c_g31 ho hn h6 h7 hT hx0 (by omega) hk0 hk1 (fun r er => ?_)
      refine z_goto (pc := 34) (tgt := 38) dX6_begun_34 rfl ?_
      refine z_iret (pc := 38) dX6_begun_38 rfl ?_
      rw [ek] at h er ⊢
      simp only [allOf, allB, if_true] at h
      exact h r er
    · skip
      refine z_if_eq (pc := 19) (tgt := 37) dX6_begun_19 rfl (fun _ => ?_) (fun hc => absurd hc (by decide))
      refine z_iconst (pc := 37) (v := 0) dX6_begun_37 (by decide) ?_
      refine z_iret (pc := 38) dX6_begun_38 rfl ?_
      exfalso; omega
  · skip
    refine z_iload_n (pc := 0) dX6_begun_0 rfl ?_
    refine z_iconst (pc := 1) (v := 5) dX6_begun_1 (by decide) ?_
    refine z_imulT (pc := 2) (cx := 2) (cy := 5) dX6_begun_2 (by decide) (by decide) (by omega) (by omega) (fun v2 e2 => ?_)
    refine z_aload_n (pc := 3) dX6_begun_3 rfl ?_
    refine z_getI (pc := 4) dX6_begun_4 fk_X6_18 ho hn (by decide) (by decide) ?_
    refine z_iaddT (pc := 7) dX6_begun_7 rfl rfl (by omega) (by omega) (fun v7 e7 => ?_)
    refine z_istore (pc := 8) dX6_begun_8 rfl rfl (by dsimp only [setI, setL, List.set]) ?_
    refine z_iload (pc := 10) dX6_begun_10 rfl ?_
    refine z_getsBo (pc := 12) dX6_begun_12 kg_X6_53 ?_
    refine z_rolen (pc := 15) dX6_begun_15 (by decide) (by decide) ?_
    refine z_is2 (pc := 16) dX6_begun_16 ks_X6_45 rfl rfl ?_
    refine c_X10_isBelow (fun q => ?_) (fun q => ?_)
    · skip
      refine z_if_eq (pc := 19) (tgt := 37) dX6_begun_19 rfl (fun hc => absurd hc (by decide)) (fun _ => ?_)
      refine z_aload_n (pc := 22) dX6_begun_22 rfl ?_
      refine z_getsBo (pc := 23) dX6_begun_23 kg_X6_53 ?_
      refine z_iload (pc := 26) dX6_begun_26 rfl ?_
      refine z_roaldN (pc := 28) 14 dX6_begun_28 (by decide) (by decide) (by omega) (by show _ < 20; decide) ?_
      refine z_aload_n (pc := 29) dX6_begun_29 rfl ?_
      refine z_iload_n (pc := 30) dX6_begun_30 rfl ?_
      refine z_iv3 (pc := 31) dX6_begun_31 kv_X6_56 ho hn (by decide) rfl rfl ?_
      refine c_g30 ho hn h6 h7 hT hx0 (by omega) hk0 hk1 (fun r er => ?_)
      refine z_goto (pc := 34) (tgt := 38) dX6_begun_34 rfl ?_
      refine z_iret (pc := 38) dX6_begun_38 rfl ?_
      rw [ek] at h er ⊢
      simp only [allOf, allB, if_neg (show ¬ (4 : Int) = 3 by decide)] at h
      exact h r er
    · skip
      refine z_if_eq (pc := 19) (tgt := 37) dX6_begun_19 rfl (fun _ => ?_) (fun hc => absurd hc (by decide))
      refine z_iconst (pc := 37) (v := 0) dX6_begun_37 (by decide) ?_
      refine z_iret (pc := 38) dX6_begun_38 rfl ?_
      exfalso; omega

theorem c_g40 {l : Launch} {G : Gx} {d : Nat} {σ : Sg} {Q : Option Value → Sg → Prop} {o t : Nat} {x : Int32} (ho : kd o = 6) (hn : o < 105) (h6 : o ≠ 6) (h7 : o ≠ 7) (hT : TL σ t) (hx0 : 0 ≤ x.toInt) (hx : x.toInt < 3) (hk0 : 0 ≤ (σ.1 o 2).toInt) (hk1 : (σ.1 o 2).toInt < 5) (h : ∀ r : Int32, r.toInt = 10 * allOf (σ.1 o 2).toInt (σ.1 o 3).toInt → Q (some (.int r)) (lvs t σ (40 :: allB (σ.1 o 2).toInt (σ.1 o 3).toInt))) : Z l G M_X6_gives (d + 7) 0 [some (.ref o), some (.int 40), some (.ref t), some (.int x)] [] σ Q := by
  refine z_sub (L' := [some (.ref o), some (.int 40), some (.ref t), some (.int x), none]) ⟨rfl, rfl, rfl, rfl, trivial⟩ ?_
  refine z_iload_n (pc := 0) dX6_gives_0 rfl ?_
  refine z_bipush (pc := 1) (v := 8) dX6_gives_1 (by decide) ?_
  refine zq_icmp_lt (pc := 3) (cy := 8) (tgt := 8) dX6_gives_3 rfl rfl (by decide) (fun h3 => ?_) (fun h3 => ?_)
  · skip
    refine z_aload_n (pc := 8) dX6_gives_8 rfl ?_
    refine z_iload_n (pc := 9) dX6_gives_9 rfl ?_
    refine z_iv1 (pc := 10) dX6_gives_10 kv_X6_59 (TL_kd hT).1 (TL_kd hT).2 (by decide) rfl rfl ?_
    refine c_leave hT ?_
    refine z_iload_n (pc := 13) dX6_gives_13 rfl ?_
    refine z_iconst (pc := 14) (v := 1) dX6_gives_14 (by decide) ?_
    refine z_iaddT (pc := 15) (cy := 1) dX6_gives_15 rfl (by decide) (by omega) (by omega) (fun v15 e15 => ?_)
    refine z_istore (pc := 16) dX6_gives_16 rfl rfl (by dsimp only [setI, setL, List.set]) ?_
    refine z_iload_n (pc := 18) dX6_gives_18 rfl ?_
    refine zq_swIn (pc := 19) (c := 40) (tgt := 252) dX6_gives_19 (by decide) (by decide) (by decide) rfl rfl ?_
    refine z_bipush (pc := 252) (v := 10) dX6_gives_252 (by decide) ?_
    refine z_aload_n (pc := 254) dX6_gives_254 rfl ?_
    refine z_iconst (pc := 255) (v := 2) dX6_gives_255 (by decide) ?_
    refine z_aload_n (pc := 256) dX6_gives_256 rfl ?_
    refine z_iload (pc := 257) dX6_gives_257 rfl ?_
    refine z_iv3 (pc := 259) dX6_gives_259 kv_X6_32 ho hn (by decide) rfl rfl ?_
    have e2 : (lvT t σ 40).1 o 2 = σ.1 o 2 := by rw [lvT_row h6 h7]
    have e3 : (lvT t σ 40).1 o 3 = σ.1 o 3 := by rw [lvT_row h6 h7]
    refine c_bAll ho hn h6 h7 (lvT_TL hT) (by omega) (by omega) (by rw [e2]; exact hk0) (by rw [e2]; exact hk1) (fun rl erl => ?_)
    rw [e2, e3] at erl ⊢
    have hl1 := all_rng (σ.1 o 2).toInt (σ.1 o 3).toInt
    refine z_imulT (pc := 262) (cx := 10) dX6_gives_262 (by decide) rfl (by omega) (by omega) (fun v262 e262 => ?_)
    refine z_iret (pc := 263) dX6_gives_263 rfl ?_
    exact h _ (by omega)
  · skip
    refine z_iconst (pc := 6) (v := 0) dX6_gives_6 (by decide) ?_
    refine z_iret (pc := 7) dX6_gives_7 rfl ?_
    exfalso; omega

theorem c_g41 {l : Launch} {G : Gx} {d : Nat} {σ : Sg} {Q : Option Value → Sg → Prop} {o t : Nat} {x : Int32} (ho : kd o = 6) (hn : o < 105) (h6 : o ≠ 6) (h7 : o ≠ 7) (hT : TL σ t) (hx0 : 0 ≤ x.toInt) (hx : x.toInt < 2) (hk0 : 0 ≤ (σ.1 o 2).toInt) (hk1 : (σ.1 o 2).toInt < 5) (h : ∀ r : Int32, r.toInt = 10 * allOf (σ.1 o 2).toInt (σ.1 o 3).toInt - 5 → Q (some (.int r)) (lvs t σ (41 :: 40 :: allB (σ.1 o 2).toInt (σ.1 o 3).toInt))) : Z l G M_X6_gives (d + 8) 0 [some (.ref o), some (.int 41), some (.ref t), some (.int x)] [] σ Q := by
  refine z_sub (L' := [some (.ref o), some (.int 41), some (.ref t), some (.int x), none]) ⟨rfl, rfl, rfl, rfl, trivial⟩ ?_
  refine z_iload_n (pc := 0) dX6_gives_0 rfl ?_
  refine z_bipush (pc := 1) (v := 8) dX6_gives_1 (by decide) ?_
  refine zq_icmp_lt (pc := 3) (cy := 8) (tgt := 8) dX6_gives_3 rfl rfl (by decide) (fun h3 => ?_) (fun h3 => ?_)
  · skip
    refine z_aload_n (pc := 8) dX6_gives_8 rfl ?_
    refine z_iload_n (pc := 9) dX6_gives_9 rfl ?_
    refine z_iv1 (pc := 10) dX6_gives_10 kv_X6_59 (TL_kd hT).1 (TL_kd hT).2 (by decide) rfl rfl ?_
    refine c_leave hT ?_
    refine z_iload_n (pc := 13) dX6_gives_13 rfl ?_
    refine z_iconst (pc := 14) (v := 1) dX6_gives_14 (by decide) ?_
    refine z_iaddT (pc := 15) (cy := 1) dX6_gives_15 rfl (by decide) (by omega) (by omega) (fun v15 e15 => ?_)
    refine z_istore (pc := 16) dX6_gives_16 rfl rfl (by dsimp only [setI, setL, List.set]) ?_
    refine z_iload_n (pc := 18) dX6_gives_18 rfl ?_
    refine zq_swIn (pc := 19) (c := 41) (tgt := 264) dX6_gives_19 (by decide) (by decide) (by decide) rfl rfl ?_
    refine z_aload_n (pc := 264) dX6_gives_264 rfl ?_
    refine z_bipush (pc := 265) (v := 40) dX6_gives_265 (by decide) ?_
    refine z_aload_n (pc := 267) dX6_gives_267 rfl ?_
    refine z_iload (pc := 268) dX6_gives_268 rfl ?_
    refine z_iv3 (pc := 270) dX6_gives_270 kv_X6_56 ho hn (by decide) rfl rfl ?_
    have e2 : (lvT t σ 41).1 o 2 = σ.1 o 2 := by rw [lvT_row h6 h7]
    have e3 : (lvT t σ 41).1 o 3 = σ.1 o 3 := by rw [lvT_row h6 h7]
    refine c_g40 ho hn h6 h7 (lvT_TL hT) (by omega) (by omega) (by rw [e2]; exact hk0) (by rw [e2]; exact hk1) (fun rl erl => ?_)
    rw [e2, e3] at erl ⊢
    have hl1 := all_rng (σ.1 o 2).toInt (σ.1 o 3).toInt
    refine z_iconst (pc := 273) (v := 5) dX6_gives_273 (by decide) ?_
    refine z_isubT (pc := 274) (cy := 5) dX6_gives_274 rfl (by decide) (by omega) (by omega) (fun v274 e274 => ?_)
    refine z_iret (pc := 275) dX6_gives_275 rfl ?_
    exact h _ (by omega)
  · skip
    refine z_iconst (pc := 6) (v := 0) dX6_gives_6 (by decide) ?_
    refine z_iret (pc := 7) dX6_gives_7 rfl ?_
    exfalso; omega

theorem c_bWor {l : Launch} {G : Gx} {d : Nat} {σ : Sg} {Q : Option Value → Sg → Prop} {o t : Nat} {x : Int32} (ho : kd o = 6) (hn : o < 105) (h6 : o ≠ 6) (h7 : o ≠ 7) (hT : TL σ t) (hx0 : 0 ≤ x.toInt) (hx : x.toInt < 1) (hk0 : 0 ≤ (σ.1 o 2).toInt) (hk1 : (σ.1 o 2).toInt < 5) (h : ∀ r : Int32, r.toInt = worV (σ.1 o 2).toInt (σ.1 o 3).toInt → Q (some (.int r)) (lvs t σ (worB (σ.1 o 2).toInt (σ.1 o 3).toInt))) : Z l G M_X6_begun (d + 9) 0 [some (.ref o), some (.int 3), some (.ref t), some (.int x)] [] σ Q := by
  refine z_sub (L' := [some (.ref o), some (.int 3), some (.ref t), some (.int x), none]) ⟨rfl, rfl, rfl, rfl, trivial⟩ ?_
  have h20 : (Int32.ofNat (rol G 107)).toInt = 20 := rfl
  rcases (show (σ.1 o 2).toInt = 0 ∨ (σ.1 o 2).toInt = 1 ∨ (σ.1 o 2).toInt = 2 ∨ (σ.1 o 2).toInt = 3 ∨ (σ.1 o 2).toInt = 4 by omega) with ek | ek | ek | ek | ek
  · skip
    refine z_iload_n (pc := 0) dX6_begun_0 rfl ?_
    refine z_iconst (pc := 1) (v := 5) dX6_begun_1 (by decide) ?_
    refine z_imulT (pc := 2) (cx := 3) (cy := 5) dX6_begun_2 (by decide) (by decide) (by omega) (by omega) (fun v2 e2 => ?_)
    refine z_aload_n (pc := 3) dX6_begun_3 rfl ?_
    refine z_getI (pc := 4) dX6_begun_4 fk_X6_18 ho hn (by decide) (by decide) ?_
    refine z_iaddT (pc := 7) dX6_begun_7 rfl rfl (by omega) (by omega) (fun v7 e7 => ?_)
    refine z_istore (pc := 8) dX6_begun_8 rfl rfl (by dsimp only [setI, setL, List.set]) ?_
    refine z_iload (pc := 10) dX6_begun_10 rfl ?_
    refine z_getsBo (pc := 12) dX6_begun_12 kg_X6_53 ?_
    refine z_rolen (pc := 15) dX6_begun_15 (by decide) (by decide) ?_
    refine z_is2 (pc := 16) dX6_begun_16 ks_X6_45 rfl rfl ?_
    refine c_X10_isBelow (fun q => ?_) (fun q => ?_)
    · skip
      refine z_if_eq (pc := 19) (tgt := 37) dX6_begun_19 rfl (fun hc => absurd hc (by decide)) (fun _ => ?_)
      refine z_aload_n (pc := 22) dX6_begun_22 rfl ?_
      refine z_getsBo (pc := 23) dX6_begun_23 kg_X6_53 ?_
      refine z_iload (pc := 26) dX6_begun_26 rfl ?_
      refine z_roaldN (pc := 28) 15 dX6_begun_28 (by decide) (by decide) (by omega) (by show _ < 20; decide) ?_
      refine z_aload_n (pc := 29) dX6_begun_29 rfl ?_
      refine z_iload_n (pc := 30) dX6_begun_30 rfl ?_
      refine z_iv3 (pc := 31) dX6_begun_31 kv_X6_56 ho hn (by decide) rfl rfl ?_
      refine c_g40 ho hn h6 h7 hT hx0 (by omega) hk0 hk1 (fun r er => ?_)
      refine z_goto (pc := 34) (tgt := 38) dX6_begun_34 rfl ?_
      refine z_iret (pc := 38) dX6_begun_38 rfl ?_
      rw [ek] at h er ⊢
      simp [worV, worB] at h
      exact h r er
    · skip
      refine z_if_eq (pc := 19) (tgt := 37) dX6_begun_19 rfl (fun _ => ?_) (fun hc => absurd hc (by decide))
      refine z_iconst (pc := 37) (v := 0) dX6_begun_37 (by decide) ?_
      refine z_iret (pc := 38) dX6_begun_38 rfl ?_
      exfalso; omega
  · skip
    refine z_iload_n (pc := 0) dX6_begun_0 rfl ?_
    refine z_iconst (pc := 1) (v := 5) dX6_begun_1 (by decide) ?_
    refine z_imulT (pc := 2) (cx := 3) (cy := 5) dX6_begun_2 (by decide) (by decide) (by omega) (by omega) (fun v2 e2 => ?_)
    refine z_aload_n (pc := 3) dX6_begun_3 rfl ?_
    refine z_getI (pc := 4) dX6_begun_4 fk_X6_18 ho hn (by decide) (by decide) ?_
    refine z_iaddT (pc := 7) dX6_begun_7 rfl rfl (by omega) (by omega) (fun v7 e7 => ?_)
    refine z_istore (pc := 8) dX6_begun_8 rfl rfl (by dsimp only [setI, setL, List.set]) ?_
    refine z_iload (pc := 10) dX6_begun_10 rfl ?_
    refine z_getsBo (pc := 12) dX6_begun_12 kg_X6_53 ?_
    refine z_rolen (pc := 15) dX6_begun_15 (by decide) (by decide) ?_
    refine z_is2 (pc := 16) dX6_begun_16 ks_X6_45 rfl rfl ?_
    refine c_X10_isBelow (fun q => ?_) (fun q => ?_)
    · skip
      refine z_if_eq (pc := 19) (tgt := 37) dX6_begun_19 rfl (fun hc => absurd hc (by decide)) (fun _ => ?_)
      refine z_aload_n (pc := 22) dX6_begun_22 rfl ?_
      refine z_getsBo (pc := 23) dX6_begun_23 kg_X6_53 ?_
      refine z_iload (pc := 26) dX6_begun_26 rfl ?_
      refine z_roaldN (pc := 28) 16 dX6_begun_28 (by decide) (by decide) (by omega) (by show _ < 20; decide) ?_
      refine z_aload_n (pc := 29) dX6_begun_29 rfl ?_
      refine z_iload_n (pc := 30) dX6_begun_30 rfl ?_
      refine z_iv3 (pc := 31) dX6_begun_31 kv_X6_56 ho hn (by decide) rfl rfl ?_
      refine c_g40 ho hn h6 h7 hT hx0 (by omega) hk0 hk1 (fun r er => ?_)
      refine z_goto (pc := 34) (tgt := 38) dX6_begun_34 rfl ?_
      refine z_iret (pc := 38) dX6_begun_38 rfl ?_
      rw [ek] at h er ⊢
      simp [worV, worB] at h
      exact h r er
    · skip
      refine z_if_eq (pc := 19) (tgt := 37) dX6_begun_19 rfl (fun _ => ?_) (fun hc => absurd hc (by decide))
      refine z_iconst (pc := 37) (v := 0) dX6_begun_37 (by decide) ?_
      refine z_iret (pc := 38) dX6_begun_38 rfl ?_
      exfalso; omega
  · skip
    refine z_iload_n (pc := 0) dX6_begun_0 rfl ?_
    refine z_iconst (pc := 1) (v := 5) dX6_begun_1 (by decide) ?_
    refine z_imulT (pc := 2) (cx := 3) (cy := 5) dX6_begun_2 (by decide) (by decide) (by omega) (by omega) (fun v2 e2 => ?_)
    refine z_aload_n (pc := 3) dX6_begun_3 rfl ?_
    refine z_getI (pc := 4) dX6_begun_4 fk_X6_18 ho hn (by decide) (by decide) ?_
    refine z_iaddT (pc := 7) dX6_begun_7 rfl rfl (by omega) (by omega) (fun v7 e7 => ?_)
    refine z_istore (pc := 8) dX6_begun_8 rfl rfl (by dsimp only [setI, setL, List.set]) ?_
    refine z_iload (pc := 10) dX6_begun_10 rfl ?_
    refine z_getsBo (pc := 12) dX6_begun_12 kg_X6_53 ?_
    refine z_rolen (pc := 15) dX6_begun_15 (by decide) (by decide) ?_
    refine z_is2 (pc := 16) dX6_begun_16 ks_X6_45 rfl rfl ?_
    refine c_X10_isBelow (fun q => ?_) (fun q => ?_)
    · skip
      refine z_if_eq (pc := 19) (tgt := 37) dX6_begun_19 rfl (fun hc => absurd hc (by decide)) (fun _ => ?_)
      refine z_aload_n (pc := 22) dX6_begun_22 rfl ?_
      refine z_getsBo (pc := 23) dX6_begun_23 kg_X6_53 ?_
      refine z_iload (pc := 26) dX6_begun_26 rfl ?_
      refine z_roaldN (pc := 28) 17 dX6_begun_28 (by decide) (by decide) (by omega) (by show _ < 20; decide) ?_
      refine z_aload_n (pc := 29) dX6_begun_29 rfl ?_
      refine z_iload_n (pc := 30) dX6_begun_30 rfl ?_
      refine z_iv3 (pc := 31) dX6_begun_31 kv_X6_56 ho hn (by decide) rfl rfl ?_
      refine c_g41 ho hn h6 h7 hT hx0 (by omega) hk0 hk1 (fun r er => ?_)
      refine z_goto (pc := 34) (tgt := 38) dX6_begun_34 rfl ?_
      refine z_iret (pc := 38) dX6_begun_38 rfl ?_
      rw [ek] at h er ⊢
      simp [worV, worB] at h
      exact h r er
    · skip
      refine z_if_eq (pc := 19) (tgt := 37) dX6_begun_19 rfl (fun _ => ?_) (fun hc => absurd hc (by decide))
      refine z_iconst (pc := 37) (v := 0) dX6_begun_37 (by decide) ?_
      refine z_iret (pc := 38) dX6_begun_38 rfl ?_
      exfalso; omega
  · skip
    refine z_iload_n (pc := 0) dX6_begun_0 rfl ?_
    refine z_iconst (pc := 1) (v := 5) dX6_begun_1 (by decide) ?_
    refine z_imulT (pc := 2) (cx := 3) (cy := 5) dX6_begun_2 (by decide) (by decide) (by omega) (by omega) (fun v2 e2 => ?_)
    refine z_aload_n (pc := 3) dX6_begun_3 rfl ?_
    refine z_getI (pc := 4) dX6_begun_4 fk_X6_18 ho hn (by decide) (by decide) ?_
    refine z_iaddT (pc := 7) dX6_begun_7 rfl rfl (by omega) (by omega) (fun v7 e7 => ?_)
    refine z_istore (pc := 8) dX6_begun_8 rfl rfl (by dsimp only [setI, setL, List.set]) ?_
    refine z_iload (pc := 10) dX6_begun_10 rfl ?_
    refine z_getsBo (pc := 12) dX6_begun_12 kg_X6_53 ?_
    refine z_rolen (pc := 15) dX6_begun_15 (by decide) (by decide) ?_
    refine z_is2 (pc := 16) dX6_begun_16 ks_X6_45 rfl rfl ?_
    refine c_X10_isBelow (fun q => ?_) (fun q => ?_)
    · skip
      refine z_if_eq (pc := 19) (tgt := 37) dX6_begun_19 rfl (fun hc => absurd hc (by decide)) (fun _ => ?_)
      refine z_aload_n (pc := 22) dX6_begun_22 rfl ?_
      refine z_getsBo (pc := 23) dX6_begun_23 kg_X6_53 ?_
      refine z_iload (pc := 26) dX6_begun_26 rfl ?_
      refine z_roaldN (pc := 28) 18 dX6_begun_28 (by decide) (by decide) (by omega) (by show _ < 20; decide) ?_
      refine z_aload_n (pc := 29) dX6_begun_29 rfl ?_
      refine z_iload_n (pc := 30) dX6_begun_30 rfl ?_
      refine z_iv3 (pc := 31) dX6_begun_31 kv_X6_56 ho hn (by decide) rfl rfl ?_
      refine c_g40 ho hn h6 h7 hT hx0 (by omega) hk0 hk1 (fun r er => ?_)
      refine z_goto (pc := 34) (tgt := 38) dX6_begun_34 rfl ?_
      refine z_iret (pc := 38) dX6_begun_38 rfl ?_
      rw [ek] at h er ⊢
      simp [worV, worB] at h
      exact h r er
    · skip
      refine z_if_eq (pc := 19) (tgt := 37) dX6_begun_19 rfl (fun _ => ?_) (fun hc => absurd hc (by decide))
      refine z_iconst (pc := 37) (v := 0) dX6_begun_37 (by decide) ?_
      refine z_iret (pc := 38) dX6_begun_38 rfl ?_
      exfalso; omega
  · skip
    refine z_iload_n (pc := 0) dX6_begun_0 rfl ?_
    refine z_iconst (pc := 1) (v := 5) dX6_begun_1 (by decide) ?_
    refine z_imulT (pc := 2) (cx := 3) (cy := 5) dX6_begun_2 (by decide) (by decide) (by omega) (by omega) (fun v2 e2 => ?_)
    refine z_aload_n (pc := 3) dX6_begun_3 rfl ?_
    refine z_getI (pc := 4) dX6_begun_4 fk_X6_18 ho hn (by decide) (by decide) ?_
    refine z_iaddT (pc := 7) dX6_begun_7 rfl rfl (by omega) (by omega) (fun v7 e7 => ?_)
    refine z_istore (pc := 8) dX6_begun_8 rfl rfl (by dsimp only [setI, setL, List.set]) ?_
    refine z_iload (pc := 10) dX6_begun_10 rfl ?_
    refine z_getsBo (pc := 12) dX6_begun_12 kg_X6_53 ?_
    refine z_rolen (pc := 15) dX6_begun_15 (by decide) (by decide) ?_
    refine z_is2 (pc := 16) dX6_begun_16 ks_X6_45 rfl rfl ?_
    refine c_X10_isBelow (fun q => ?_) (fun q => ?_)
    · skip
      refine z_if_eq (pc := 19) (tgt := 37) dX6_begun_19 rfl (fun hc => absurd hc (by decide)) (fun _ => ?_)
      refine z_aload_n (pc := 22) dX6_begun_22 rfl ?_
      refine z_getsBo (pc := 23) dX6_begun_23 kg_X6_53 ?_
      refine z_iload (pc := 26) dX6_begun_26 rfl ?_
      refine z_roaldN (pc := 28) 19 dX6_begun_28 (by decide) (by decide) (by omega) (by show _ < 20; decide) ?_
      refine z_aload_n (pc := 29) dX6_begun_29 rfl ?_
      refine z_iload_n (pc := 30) dX6_begun_30 rfl ?_
      refine z_iv3 (pc := 31) dX6_begun_31 kv_X6_56 ho hn (by decide) rfl rfl ?_
      refine c_g42 ho hn h6 h7 hT hx0 (by omega) hk0 hk1 (fun r er => ?_)
      refine z_goto (pc := 34) (tgt := 38) dX6_begun_34 rfl ?_
      refine z_iret (pc := 38) dX6_begun_38 rfl ?_
      rw [ek] at h er ⊢
      simp [worV, worB] at h
      exact h r er
    · skip
      refine z_if_eq (pc := 19) (tgt := 37) dX6_begun_19 rfl (fun _ => ?_) (fun hc => absurd hc (by decide))
      refine z_iconst (pc := 37) (v := 0) dX6_begun_37 (by decide) ?_
      refine z_iret (pc := 38) dX6_begun_38 rfl ?_
      exfalso; omega
