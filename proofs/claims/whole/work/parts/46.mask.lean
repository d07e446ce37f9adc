/-- a body leaves its number in the model's trace -/
def bgM (σ : Sg) (b : Int32) : Sg := if (σ.1 1 19).toInt ≠ 0 ∧ (σ.1 1 18).toInt < 16 then uI (uI σ 40 (σ.1 1 18).toInt.toNat b) 1 18 (σ.1 1 18 + 1) else σ
def bgs (σ : Sg) (bs : List Int32) : Sg := bs.foldl bgM σ
def TM (σ : Sg) : Prop := 0 ≤ (σ.1 1 18).toInt ∧ (σ.1 1 18).toInt ≤ 16
theorem bgM_row {σ : Sg} {b : Int32} {o : Nat} (h1 : o ≠ 1) (h2 : o ≠ 40) : (bgM σ b).1 o = σ.1 o := by
  unfold bgM
  split
  · rw [uI_row h1, uI_row h2]
  · rfl
theorem bgM_1 {σ : Sg} {b : Int32} {k : Nat} (h : k ≠ 18) : (bgM σ b).1 1 k = σ.1 1 k := by
  unfold bgM
  split
  · rw [uI_nk h, uI_row (by omega)]
  · rfl
theorem bgM_2 {σ : Sg} {b : Int32} : (bgM σ b).2 = σ.2 := by
  unfold bgM
  split <;> rfl
theorem bgM_TM {σ : Sg} {b : Int32} (h : TM σ) : TM (bgM σ b) := by
  obtain ⟨h2, h3⟩ := h
  unfold bgM
  split
  · rename_i hc
    unfold TM
    rw [uI_eq, t32_add (y := 1)] <;> (have : (1 : Int32).toInt = 1 := rfl) <;> omega
  · exact ⟨h2, h3⟩
theorem bgs_nil {σ : Sg} : bgs σ [] = σ := rfl
theorem bgs_cons {σ : Sg} {b : Int32} {bs : List Int32} : bgs σ (b :: bs) = bgs (bgM σ b) bs := rfl
theorem bgs_app {σ : Sg} {xs ys : List Int32} : bgs σ (xs ++ ys) = bgs (bgs σ xs) ys := List.foldl_append
theorem bgs_row {o : Nat} (h1 : o ≠ 1) (h2 : o ≠ 40) : ∀ (bs : List Int32) (σ : Sg), (bgs σ bs).1 o = σ.1 o
  | [], _ => rfl
  | b :: bs, σ => by rw [bgs_cons, bgs_row h1 h2 bs, bgM_row h1 h2]
theorem bgs_1 {k : Nat} (h : k ≠ 18) : ∀ (bs : List Int32) (σ : Sg), (bgs σ bs).1 1 k = σ.1 1 k
  | [], _ => rfl
  | b :: bs, σ => by rw [bgs_cons, bgs_1 h bs, bgM_1 h]
theorem bgs_2 : ∀ (bs : List Int32) (σ : Sg), (bgs σ bs).2 = σ.2
  | [], _ => rfl
  | b :: bs, σ => by rw [bgs_cons, bgs_2 bs, bgM_2]
theorem bgs_TM : ∀ (bs : List Int32) (σ : Sg), TM σ → TM (bgs σ bs)
  | [], _, h => h
  | b :: bs, σ, h => bgs_TM bs _ (bgM_TM h)
theorem bgs_off : ∀ (bs : List Int32) (σ : Sg), σ.1 1 19 = 0 → bgs σ bs = σ
  | [], _, _ => rfl
  | b :: bs, σ, h => by rw [bgs_cons, show bgM σ b = σ from if_neg (fun z => by rw [h] at z; exact z.1 rfl), bgs_off bs σ h]

theorem c_X11_begins {l : Launch} {G : Gx} {d : Nat} {σ : Sg} {Q : Option Value → Sg → Prop} {b : Int32} (hT : TM σ) (h : Q none (bgM σ b)) : Z l G M_X11_begins (d) 0 [some (.ref 1), some (.int b)] [] σ Q := by
  obtain ⟨t1, t2⟩ := hT
  refine z_sub (L' := [some (.ref 1), some (.int b)]) ⟨rfl, rfl, trivial⟩ ?_
  refine z_aload_n (pc := 0) dX11_begins_0 rfl ?_
  refine z_getI (pc := 1) dX11_begins_1 fk_X11_147 rfl (by decide) (by decide) (by decide) ?_
  refine zq_if_eq (pc := 4) (tgt := 36) dX11_begins_4 rfl rfl (fun h4 => ?_) (fun h4 => ?_)
  · skip
    refine z_vret (pc := 36) dX11_begins_36 rfl ?_
    first | (rw [show bgM σ b = σ from if_neg (by omega)] at h; exact h) | (rw [show bgM σ b = _ from if_pos (by omega)] at h; rw [uI_no (by omega)]; exact h)
  · skip
    refine z_aload_n (pc := 7) dX11_begins_7 rfl ?_
    refine z_getI (pc := 8) dX11_begins_8 fk_X11_150 rfl (by decide) (by decide) (by decide) ?_
    refine z_bipush (pc := 11) (v := 16) dX11_begins_11 (by decide) ?_
    refine zq_icmp_ge (pc := 13) (cy := 16) (tgt := 36) dX11_begins_13 rfl rfl (by decide) (fun h13 => ?_) (fun h13 => ?_)
    · skip
      refine z_vret (pc := 36) dX11_begins_36 rfl ?_
      first | (rw [show bgM σ b = σ from if_neg (by omega)] at h; exact h) | (rw [show bgM σ b = _ from if_pos (by omega)] at h; rw [uI_no (by omega)]; exact h)
    · skip
      refine z_aload_n (pc := 16) dX11_begins_16 rfl ?_
      refine z_getR (pc := 17) (t := 40) dX11_begins_17 fk_X11_44 rfl (by decide) (by decide) (by decide) rfl ?_
      refine z_aload_n (pc := 20) dX11_begins_20 rfl ?_
      refine z_getI (pc := 21) dX11_begins_21 fk_X11_150 rfl (by decide) (by decide) (by decide) ?_
      refine z_iload_n (pc := 24) dX11_begins_24 rfl ?_
      refine z_iastN (pc := 25) (σ.1 1 18).toInt.toNat dX11_begins_25 rfl (by decide) (by omega) (by show _ < 16; omega) ?_
      refine z_aload_n (pc := 26) dX11_begins_26 rfl ?_
      refine z_dup (pc := 27) dX11_begins_27 rfl ?_
      refine z_getI (pc := 28) dX11_begins_28 fk_X11_150 rfl (by decide) (by decide) (by decide) ?_
      refine z_iconst (pc := 31) (v := 1) dX11_begins_31 (by decide) ?_
      refine z_iadd (pc := 32) dX11_begins_32 ?_
      refine z_putI (pc := 33) dX11_begins_33 fk_X11_150 rfl (by decide) (by decide) (by decide) ?_
      refine z_vret (pc := 36) dX11_begins_36 rfl ?_
      first | (rw [show bgM σ b = σ from if_neg (by omega)] at h; exact h) | (rw [show bgM σ b = _ from if_pos (by omega)] at h; rw [uI_no (by omega)]; exact h)

theorem c_mred {l : Launch} {G : Gx} {d : Nat} {σ : Sg} {Q : Option Value → Sg → Prop} {p : Nat} {x : Int32} (hp : p < 40) (hx : x.toInt = (p : Int)) (hT : TM σ) (hk0 : 0 ≤ (σ.1 33 p).toInt) (hk1 : (σ.1 33 p).toInt < 5) (h : ∀ r : Int32, r.toInt = redOf (σ.1 33 p).toInt (σ.1 34 p).toInt → Q (some (.int r)) (bgs σ (redB (σ.1 33 p).toInt (σ.1 34 p).toInt))) : Z l G M_X11_red (d + 1) 0 [some (.ref 1), some (.int x)] [] σ Q := by
  refine z_sub (L' := [some (.ref 1), some (.int x)]) ⟨rfl, rfl, trivial⟩ ?_
  rcases (show (σ.1 33 p).toInt = 0 ∨ (σ.1 33 p).toInt = 1 ∨ (σ.1 33 p).toInt = 2 ∨ (σ.1 33 p).toInt = 3 ∨ (σ.1 33 p).toInt = 4 by omega) with ek | ek | ek | ek | ek
  · skip
    refine z_aload_n (pc := 0) dX11_red_0 rfl ?_
    refine z_getR (pc := 1) (t := 33) dX11_red_1 fk_X11_16 rfl (by decide) (by decide) (by decide) rfl ?_
    refine z_iload_n (pc := 4) dX11_red_4 rfl ?_
    refine z_ialdN (pc := 5) p dX11_red_5 rfl (by decide) hx (by show _ < 40; omega) ?_
    refine zq_swOut (pc := 6) (tgt := 84) dX11_red_6 (by omega) rfl ?_
    refine z_aload_n (pc := 84) dX11_red_84 rfl ?_
    refine z_bipush (pc := 85) (v := 10) dX11_red_85 (by decide) ?_
    refine z_iv1 (pc := 87) dX11_red_87 kv_X11_153 rfl (by decide) (by decide) rfl rfl ?_
    refine c_X11_begins (by first | exact hT | exact bgM_TM hT | exact bgM_TM (bgM_TM hT)) ?_
    refine z_iconst (pc := 90) (v := 0) dX11_red_90 (by decide) ?_
    refine z_iret (pc := 91) dX11_red_91 rfl ?_
    first
    | (exfalso; omega)
    | (rw [ek] at h; simp (disch := omega) only [redOf, redB, if_pos, if_neg, if_true] at h; exact h _ rfl)
    | (rw [ek] at h; simp [redOf, redB] at h; exact h _ rfl)
    | (rw [ek] at h; simp [redOf, redB, h71] at h; exact h _ rfl)
  · skip
    refine z_aload_n (pc := 0) dX11_red_0 rfl ?_
    refine z_getR (pc := 1) (t := 33) dX11_red_1 fk_X11_16 rfl (by decide) (by decide) (by decide) rfl ?_
    refine z_iload_n (pc := 4) dX11_red_4 rfl ?_
    refine z_ialdN (pc := 5) p dX11_red_5 rfl (by decide) hx (by show _ < 40; omega) ?_
    refine zq_swIn (pc := 6) (c := 1) (tgt := 36) dX11_red_6 ek (by decide) (by decide) rfl rfl ?_
    refine z_aload_n (pc := 36) dX11_red_36 rfl ?_
    refine z_bipush (pc := 37) (v := 11) dX11_red_37 (by decide) ?_
    refine z_iv1 (pc := 39) dX11_red_39 kv_X11_153 rfl (by decide) (by decide) rfl rfl ?_
    refine c_X11_begins (by first | exact hT | exact bgM_TM hT | exact bgM_TM (bgM_TM hT)) ?_
    refine z_iconst (pc := 42) (v := 1) dX11_red_42 (by decide) ?_
    refine z_iret (pc := 43) dX11_red_43 rfl ?_
    first
    | (exfalso; omega)
    | (rw [ek] at h; simp (disch := omega) only [redOf, redB, if_pos, if_neg, if_true] at h; exact h _ rfl)
    | (rw [ek] at h; simp [redOf, redB] at h; exact h _ rfl)
    | (rw [ek] at h; simp [redOf, redB, h71] at h; exact h _ rfl)
  · skip
    refine z_aload_n (pc := 0) dX11_red_0 rfl ?_
    refine z_getR (pc := 1) (t := 33) dX11_red_1 fk_X11_16 rfl (by decide) (by decide) (by decide) rfl ?_
    refine z_iload_n (pc := 4) dX11_red_4 rfl ?_
    refine z_ialdN (pc := 5) p dX11_red_5 rfl (by decide) hx (by show _ < 40; omega) ?_
    refine zq_swIn (pc := 6) (c := 2) (tgt := 84) dX11_red_6 ek (by decide) (by decide) rfl rfl ?_
    refine z_aload_n (pc := 84) dX11_red_84 rfl ?_
    refine z_bipush (pc := 85) (v := 10) dX11_red_85 (by decide) ?_
    refine z_iv1 (pc := 87) dX11_red_87 kv_X11_153 rfl (by decide) (by decide) rfl rfl ?_
    refine c_X11_begins (by first | exact hT | exact bgM_TM hT | exact bgM_TM (bgM_TM hT)) ?_
    refine z_iconst (pc := 90) (v := 0) dX11_red_90 (by decide) ?_
    refine z_iret (pc := 91) dX11_red_91 rfl ?_
    first
    | (exfalso; omega)
    | (rw [ek] at h; simp (disch := omega) only [redOf, redB, if_pos, if_neg, if_true] at h; exact h _ rfl)
    | (rw [ek] at h; simp [redOf, redB] at h; exact h _ rfl)
    | (rw [ek] at h; simp [redOf, redB, h71] at h; exact h _ rfl)
  · skip
    refine z_aload_n (pc := 0) dX11_red_0 rfl ?_
    refine z_getR (pc := 1) (t := 33) dX11_red_1 fk_X11_16 rfl (by decide) (by decide) (by decide) rfl ?_
    refine z_iload_n (pc := 4) dX11_red_4 rfl ?_
    refine z_ialdN (pc := 5) p dX11_red_5 rfl (by decide) hx (by show _ < 40; omega) ?_
    refine zq_swIn (pc := 6) (c := 3) (tgt := 44) dX11_red_6 ek (by decide) (by decide) rfl rfl ?_
    refine z_aload_n (pc := 44) dX11_red_44 rfl ?_
    refine z_bipush (pc := 45) (v := 12) dX11_red_45 (by decide) ?_
    refine z_iv1 (pc := 47) dX11_red_47 kv_X11_153 rfl (by decide) (by decide) rfl rfl ?_
    refine c_X11_begins (by first | exact hT | exact bgM_TM hT | exact bgM_TM (bgM_TM hT)) ?_
    refine z_aload_n (pc := 50) dX11_red_50 rfl ?_
    refine z_bipush (pc := 51) (v := 11) dX11_red_51 (by decide) ?_
    refine z_iv1 (pc := 53) dX11_red_53 kv_X11_153 rfl (by decide) (by decide) rfl rfl ?_
    refine c_X11_begins (by first | exact hT | exact bgM_TM hT | exact bgM_TM (bgM_TM hT)) ?_
    refine z_iconst (pc := 56) (v := 2) dX11_red_56 (by decide) ?_
    refine z_iret (pc := 57) dX11_red_57 rfl ?_
    first
    | (exfalso; omega)
    | (rw [ek] at h; simp (disch := omega) only [redOf, redB, if_pos, if_neg, if_true] at h; exact h _ rfl)
    | (rw [ek] at h; simp [redOf, redB] at h; exact h _ rfl)
    | (rw [ek] at h; simp [redOf, redB, h71] at h; exact h _ rfl)
  · skip
    refine z_aload_n (pc := 0) dX11_red_0 rfl ?_
    refine z_getR (pc := 1) (t := 33) dX11_red_1 fk_X11_16 rfl (by decide) (by decide) (by decide) rfl ?_
    refine z_iload_n (pc := 4) dX11_red_4 rfl ?_
    refine z_ialdN (pc := 5) p dX11_red_5 rfl (by decide) hx (by show _ < 40; omega) ?_
    refine zq_swIn (pc := 6) (c := 4) (tgt := 58) dX11_red_6 ek (by decide) (by decide) rfl rfl ?_
    refine z_aload_n (pc := 58) dX11_red_58 rfl ?_
    refine z_bipush (pc := 59) (v := 13) dX11_red_59 (by decide) ?_
    refine z_iv1 (pc := 61) dX11_red_61 kv_X11_153 rfl (by decide) (by decide) rfl rfl ?_
    refine c_X11_begins (by first | exact hT | exact bgM_TM hT | exact bgM_TM (bgM_TM hT)) ?_
    refine z_aload_n (pc := 64) dX11_red_64 rfl ?_
    refine z_getR (pc := 65) (t := 34) dX11_red_65 fk_X11_19 rfl (by decide) (by decide) (by decide) rfl ?_
    refine z_iload_n (pc := 68) dX11_red_68 rfl ?_
    refine z_ialdN (pc := 69) p dX11_red_69 rfl (by decide) hx (by show _ < 40; omega) ?_
    refine z_iconst (pc := 70) (v := 1) dX11_red_70 (by decide) ?_
    rw [bgM_row (by omega) (by omega)]
    refine zq_icmp_ne (pc := 71) (cy := 1) (tgt := 76) dX11_red_71 rfl rfl (by decide) (fun h71 => ?_) (fun h71 => ?_)
    · skip
      refine z_aload_n (pc := 76) dX11_red_76 rfl ?_
      refine z_bipush (pc := 77) (v := 10) dX11_red_77 (by decide) ?_
      refine z_iv1 (pc := 79) dX11_red_79 kv_X11_153 rfl (by decide) (by decide) rfl rfl ?_
      refine c_X11_begins (by first | exact hT | exact bgM_TM hT | exact bgM_TM (bgM_TM hT)) ?_
      refine z_iconst (pc := 82) (v := 0) dX11_red_82 (by decide) ?_
      refine z_iret (pc := 83) dX11_red_83 rfl ?_
      first
      | (exfalso; omega)
      | (rw [ek] at h; simp (disch := omega) only [redOf, redB, if_pos, if_neg, if_true] at h; exact h _ rfl)
      | (rw [ek] at h; simp [redOf, redB] at h; exact h _ rfl)
      | (rw [ek] at h; simp [redOf, redB, h71] at h; exact h _ rfl)
    · skip
      refine z_iconst (pc := 74) (v := 1) dX11_red_74 (by decide) ?_
      refine z_iret (pc := 75) dX11_red_75 rfl ?_
      first
      | (exfalso; omega)
      | (rw [ek] at h; simp (disch := omega) only [redOf, redB, if_pos, if_neg, if_true] at h; exact h _ rfl)
      | (rw [ek] at h; simp [redOf, redB] at h; exact h _ rfl)
      | (rw [ek] at h; simp [redOf, redB, h71] at h; exact h _ rfl)

theorem c_mblue {l : Launch} {G : Gx} {d : Nat} {σ : Sg} {Q : Option Value → Sg → Prop} {p : Nat} {x : Int32} (hp : p < 40) (hx : x.toInt = (p : Int)) (hT : TM σ) (hk0 : 0 ≤ (σ.1 33 p).toInt) (hk1 : (σ.1 33 p).toInt < 5) (h : ∀ r : Int32, r.toInt = blueOf (σ.1 33 p).toInt (σ.1 34 p).toInt → Q (some (.int r)) (bgs σ (bluB (σ.1 33 p).toInt (σ.1 34 p).toInt))) : Z l G M_X11_blue (d + 1) 0 [some (.ref 1), some (.int x)] [] σ Q := by
  refine z_sub (L' := [some (.ref 1), some (.int x)]) ⟨rfl, rfl, trivial⟩ ?_
  rcases (show (σ.1 33 p).toInt = 0 ∨ (σ.1 33 p).toInt = 1 ∨ (σ.1 33 p).toInt = 2 ∨ (σ.1 33 p).toInt = 3 ∨ (σ.1 33 p).toInt = 4 by omega) with ek | ek | ek | ek | ek
  · skip
    refine z_aload_n (pc := 0) dX11_blue_0 rfl ?_
    refine z_getR (pc := 1) (t := 33) dX11_blue_1 fk_X11_16 rfl (by decide) (by decide) (by decide) rfl ?_
    refine z_iload_n (pc := 4) dX11_blue_4 rfl ?_
    refine z_ialdN (pc := 5) p dX11_blue_5 rfl (by decide) hx (by show _ < 40; omega) ?_
    refine z_iconst (pc := 6) (v := 2) dX11_blue_6 (by decide) ?_
    refine zq_icmp_ne (pc := 7) (cy := 2) (tgt := 18) dX11_blue_7 rfl rfl (by decide) (fun h7 => ?_) (fun h7 => ?_)
    · skip
      refine z_aload_n (pc := 18) dX11_blue_18 rfl ?_
      refine z_getR (pc := 19) (t := 33) dX11_blue_19 fk_X11_16 rfl (by decide) (by decide) (by decide) rfl ?_
      refine z_iload_n (pc := 22) dX11_blue_22 rfl ?_
      refine z_ialdN (pc := 23) p dX11_blue_23 rfl (by decide) hx (by show _ < 40; omega) ?_
      refine z_iconst (pc := 24) (v := 4) dX11_blue_24 (by decide) ?_
      refine zq_icmp_ne (pc := 25) (cy := 4) (tgt := 46) dX11_blue_25 rfl rfl (by decide) (fun h25 => ?_) (fun h25 => ?_)
      · skip
        refine z_aload_n (pc := 46) dX11_blue_46 rfl ?_
        refine z_bipush (pc := 47) (v := 20) dX11_blue_47 (by decide) ?_
        refine z_iv1 (pc := 49) dX11_blue_49 kv_X11_153 rfl (by decide) (by decide) rfl rfl ?_
        refine c_X11_begins (by first | exact hT | exact bgM_TM hT | exact bgM_TM (bgM_TM hT)) ?_
        refine z_iconst (pc := 52) (v := 0) dX11_blue_52 (by decide) ?_
        refine z_iret (pc := 53) dX11_blue_53 rfl ?_
        first
        | (exfalso; omega)
        | (rw [ek] at h; simp (disch := omega) only [blueOf, bluB, if_pos, if_neg, if_true] at h; exact h _ rfl)
        | (rw [ek] at h; simp [blueOf, bluB] at h; exact h _ rfl)
        | (rw [ek] at h; simp [blueOf, bluB, h41] at h; exact h _ rfl)
      · skip
        refine z_aload_n (pc := 28) dX11_blue_28 rfl ?_
        refine z_bipush (pc := 29) (v := 22) dX11_blue_29 (by decide) ?_
        refine z_iv1 (pc := 31) dX11_blue_31 kv_X11_153 rfl (by decide) (by decide) rfl rfl ?_
        refine c_X11_begins (by first | exact hT | exact bgM_TM hT | exact bgM_TM (bgM_TM hT)) ?_
        refine z_aload_n (pc := 34) dX11_blue_34 rfl ?_
        refine z_getR (pc := 35) (t := 34) dX11_blue_35 fk_X11_19 rfl (by decide) (by decide) (by decide) rfl ?_
        refine z_iload_n (pc := 38) dX11_blue_38 rfl ?_
        refine z_ialdN (pc := 39) p dX11_blue_39 rfl (by decide) hx (by show _ < 40; omega) ?_
        refine z_iconst (pc := 40) (v := 2) dX11_blue_40 (by decide) ?_
        rw [bgM_row (by omega) (by omega)]
        refine zq_icmp_ne (pc := 41) (cy := 2) (tgt := 46) dX11_blue_41 rfl rfl (by decide) (fun h41 => ?_) (fun h41 => ?_)
        · skip
          refine z_aload_n (pc := 46) dX11_blue_46 rfl ?_
          refine z_bipush (pc := 47) (v := 20) dX11_blue_47 (by decide) ?_
          refine z_iv1 (pc := 49) dX11_blue_49 kv_X11_153 rfl (by decide) (by decide) rfl rfl ?_
          refine c_X11_begins (by first | exact hT | exact bgM_TM hT | exact bgM_TM (bgM_TM hT)) ?_
          refine z_iconst (pc := 52) (v := 0) dX11_blue_52 (by decide) ?_
          refine z_iret (pc := 53) dX11_blue_53 rfl ?_
          first
          | (exfalso; omega)
          | (rw [ek] at h; simp (disch := omega) only [blueOf, bluB, if_pos, if_neg, if_true] at h; exact h _ rfl)
          | (rw [ek] at h; simp [blueOf, bluB] at h; exact h _ rfl)
          | (rw [ek] at h; simp [blueOf, bluB, h41] at h; exact h _ rfl)
        · skip
          refine z_iconst (pc := 44) (v := 1) dX11_blue_44 (by decide) ?_
          refine z_iret (pc := 45) dX11_blue_45 rfl ?_
          first
          | (exfalso; omega)
          | (rw [ek] at h; simp (disch := omega) only [blueOf, bluB, if_pos, if_neg, if_true] at h; exact h _ rfl)
          | (rw [ek] at h; simp [blueOf, bluB] at h; exact h _ rfl)
          | (rw [ek] at h; simp [blueOf, bluB, h41] at h; exact h _ rfl)
    · skip
      refine z_aload_n (pc := 10) dX11_blue_10 rfl ?_
      refine z_bipush (pc := 11) (v := 21) dX11_blue_11 (by decide) ?_
      refine z_iv1 (pc := 13) dX11_blue_13 kv_X11_153 rfl (by decide) (by decide) rfl rfl ?_
      refine c_X11_begins (by first | exact hT | exact bgM_TM hT | exact bgM_TM (bgM_TM hT)) ?_
      refine z_iconst (pc := 16) (v := 1) dX11_blue_16 (by decide) ?_
      refine z_iret (pc := 17) dX11_blue_17 rfl ?_
      first
      | (exfalso; omega)
      | (rw [ek] at h; simp (disch := omega) only [blueOf, bluB, if_pos, if_neg, if_true] at h; exact h _ rfl)
      | (rw [ek] at h; simp [blueOf, bluB] at h; exact h _ rfl)
      | (rw [ek] at h; simp [blueOf, bluB, h41] at h; exact h _ rfl)
  · skip
    refine z_aload_n (pc := 0) dX11_blue_0 rfl ?_
    refine z_getR (pc := 1) (t := 33) dX11_blue_1 fk_X11_16 rfl (by decide) (by decide) (by decide) rfl ?_
    refine z_iload_n (pc := 4) dX11_blue_4 rfl ?_
    refine z_ialdN (pc := 5) p dX11_blue_5 rfl (by decide) hx (by show _ < 40; omega) ?_
    refine z_iconst (pc := 6) (v := 2) dX11_blue_6 (by decide) ?_
    refine zq_icmp_ne (pc := 7) (cy := 2) (tgt := 18) dX11_blue_7 rfl rfl (by decide) (fun h7 => ?_) (fun h7 => ?_)
    · skip
      refine z_aload_n (pc := 18) dX11_blue_18 rfl ?_
      refine z_getR (pc := 19) (t := 33) dX11_blue_19 fk_X11_16 rfl (by decide) (by decide) (by decide) rfl ?_
      refine z_iload_n (pc := 22) dX11_blue_22 rfl ?_
      refine z_ialdN (pc := 23) p dX11_blue_23 rfl (by decide) hx (by show _ < 40; omega) ?_
      refine z_iconst (pc := 24) (v := 4) dX11_blue_24 (by decide) ?_
      refine zq_icmp_ne (pc := 25) (cy := 4) (tgt := 46) dX11_blue_25 rfl rfl (by decide) (fun h25 => ?_) (fun h25 => ?_)
      · skip
        refine z_aload_n (pc := 46) dX11_blue_46 rfl ?_
        refine z_bipush (pc := 47) (v := 20) dX11_blue_47 (by decide) ?_
        refine z_iv1 (pc := 49) dX11_blue_49 kv_X11_153 rfl (by decide) (by decide) rfl rfl ?_
        refine c_X11_begins (by first | exact hT | exact bgM_TM hT | exact bgM_TM (bgM_TM hT)) ?_
        refine z_iconst (pc := 52) (v := 0) dX11_blue_52 (by decide) ?_
        refine z_iret (pc := 53) dX11_blue_53 rfl ?_
        first
        | (exfalso; omega)
        | (rw [ek] at h; simp (disch := omega) only [blueOf, bluB, if_pos, if_neg, if_true] at h; exact h _ rfl)
        | (rw [ek] at h; simp [blueOf, bluB] at h; exact h _ rfl)
        | (rw [ek] at h; simp [blueOf, bluB, h41] at h; exact h _ rfl)
      · skip
        refine z_aload_n (pc := 28) dX11_blue_28 rfl ?_
        refine z_bipush (pc := 29) (v := 22) dX11_blue_29 (by decide) ?_
        refine z_iv1 (pc := 31) dX11_blue_31 kv_X11_153 rfl (by decide) (by decide) rfl rfl ?_
        refine c_X11_begins (by first | exact hT | exact bgM_TM hT | exact bgM_TM (bgM_TM hT)) ?_
        refine z_aload_n (pc := 34) dX11_blue_34 rfl ?_
        refine z_getR (pc := 35) (t := 34) dX11_blue_35 fk_X11_19 rfl (by decide) (by decide) (by decide) rfl ?_
        refine z_iload_n (pc := 38) dX11_blue_38 rfl ?_
        refine z_ialdN (pc := 39) p dX11_blue_39 rfl (by decide) hx (by show _ < 40; omega) ?_
        refine z_iconst (pc := 40) (v := 2) dX11_blue_40 (by decide) ?_
        rw [bgM_row (by omega) (by omega)]
        refine zq_icmp_ne (pc := 41) (cy := 2) (tgt := 46) dX11_blue_41 rfl rfl (by decide) (fun h41 => ?_) (fun h41 => ?_)
        · skip
          refine z_aload_n (pc := 46) dX11_blue_46 rfl ?_
          refine z_bipush (pc := 47) (v := 20) dX11_blue_47 (by decide) ?_
          refine z_iv1 (pc := 49) dX11_blue_49 kv_X11_153 rfl (by decide) (by decide) rfl rfl ?_
          refine c_X11_begins (by first | exact hT | exact bgM_TM hT | exact bgM_TM (bgM_TM hT)) ?_
          refine z_iconst (pc := 52) (v := 0) dX11_blue_52 (by decide) ?_
          refine z_iret (pc := 53) dX11_blue_53 rfl ?_
          first
          | (exfalso; omega)
          | (rw [ek] at h; simp (disch := omega) only [blueOf, bluB, if_pos, if_neg, if_true] at h; exact h _ rfl)
          | (rw [ek] at h; simp [blueOf, bluB] at h; exact h _ rfl)
          | (rw [ek] at h; simp [blueOf, bluB, h41] at h; exact h _ rfl)
        · skip
          refine z_iconst (pc := 44) (v := 1) dX11_blue_44 (by decide) ?_
          refine z_iret (pc := 45) dX11_blue_45 rfl ?_
          first
          | (exfalso; omega)
          | (rw [ek] at h; simp (disch := omega) only [blueOf, bluB, if_pos, if_neg, if_true] at h; exact h _ rfl)
          | (rw [ek] at h; simp [blueOf, bluB] at h; exact h _ rfl)
          | (rw [ek] at h; simp [blueOf, bluB, h41] at h; exact h _ rfl)
    · skip
      refine z_aload_n (pc := 10) dX11_blue_10 rfl ?_
      refine z_bipush (pc := 11) (v := 21) dX11_blue_11 (by decide) ?_
      refine z_iv1 (pc := 13) dX11_blue_13 kv_X11_153 rfl (by decide) (by decide) rfl rfl ?_
      refine c_X11_begins (by first | exact hT | exact bgM_TM hT | exact bgM_TM (bgM_TM hT)) ?_
      refine z_iconst (pc := 16) (v := 1) dX11_blue_16 (by decide) ?_
      refine z_iret (pc := 17) dX11_blue_17 rfl ?_
      first
      | (exfalso; omega)
      | (rw [ek] at h; simp (disch := omega) only [blueOf, bluB, if_pos, if_neg, if_true] at h; exact h _ rfl)
      | (rw [ek] at h; simp [blueOf, bluB] at h; exact h _ rfl)
      | (rw [ek] at h; simp [blueOf, bluB, h41] at h; exact h _ rfl)
  · skip
    refine z_aload_n (pc := 0) dX11_blue_0 rfl ?_
    refine z_getR (pc := 1) (t := 33) dX11_blue_1 fk_X11_16 rfl (by decide) (by decide) (by decide) rfl ?_
    refine z_iload_n (pc := 4) dX11_blue_4 rfl ?_
    refine z_ialdN (pc := 5) p dX11_blue_5 rfl (by decide) hx (by show _ < 40; omega) ?_
    refine z_iconst (pc := 6) (v := 2) dX11_blue_6 (by decide) ?_
    refine zq_icmp_ne (pc := 7) (cy := 2) (tgt := 18) dX11_blue_7 rfl rfl (by decide) (fun h7 => ?_) (fun h7 => ?_)
    · skip
      refine z_aload_n (pc := 18) dX11_blue_18 rfl ?_
      refine z_getR (pc := 19) (t := 33) dX11_blue_19 fk_X11_16 rfl (by decide) (by decide) (by decide) rfl ?_
      refine z_iload_n (pc := 22) dX11_blue_22 rfl ?_
      refine z_ialdN (pc := 23) p dX11_blue_23 rfl (by decide) hx (by show _ < 40; omega) ?_
      refine z_iconst (pc := 24) (v := 4) dX11_blue_24 (by decide) ?_
      refine zq_icmp_ne (pc := 25) (cy := 4) (tgt := 46) dX11_blue_25 rfl rfl (by decide) (fun h25 => ?_) (fun h25 => ?_)
      · skip
        refine z_aload_n (pc := 46) dX11_blue_46 rfl ?_
        refine z_bipush (pc := 47) (v := 20) dX11_blue_47 (by decide) ?_
        refine z_iv1 (pc := 49) dX11_blue_49 kv_X11_153 rfl (by decide) (by decide) rfl rfl ?_
        refine c_X11_begins (by first | exact hT | exact bgM_TM hT | exact bgM_TM (bgM_TM hT)) ?_
        refine z_iconst (pc := 52) (v := 0) dX11_blue_52 (by decide) ?_
        refine z_iret (pc := 53) dX11_blue_53 rfl ?_
        first
        | (exfalso; omega)
        | (rw [ek] at h; simp (disch := omega) only [blueOf, bluB, if_pos, if_neg, if_true] at h; exact h _ rfl)
        | (rw [ek] at h; simp [blueOf, bluB] at h; exact h _ rfl)
        | (rw [ek] at h; simp [blueOf, bluB, h41] at h; exact h _ rfl)
      · skip
        refine z_aload_n (pc := 28) dX11_blue_28 rfl ?_
        refine z_bipush (pc := 29) (v := 22) dX11_blue_29 (by decide) ?_
        refine z_iv1 (pc := 31) dX11_blue_31 kv_X11_153 rfl (by decide) (by decide) rfl rfl ?_
        refine c_X11_begins (by first | exact hT | exact bgM_TM hT | exact bgM_TM (bgM_TM hT)) ?_
        refine z_aload_n (pc := 34) dX11_blue_34 rfl ?_
        refine z_getR (pc := 35) (t := 34) dX11_blue_35 fk_X11_19 rfl (by decide) (by decide) (by decide) rfl ?_
        refine z_iload_n (pc := 38) dX11_blue_38 rfl ?_
        refine z_ialdN (pc := 39) p dX11_blue_39 rfl (by decide) hx (by show _ < 40; omega) ?_
        refine z_iconst (pc := 40) (v := 2) dX11_blue_40 (by decide) ?_
        rw [bgM_row (by omega) (by omega)]
        refine zq_icmp_ne (pc := 41) (cy := 2) (tgt := 46) dX11_blue_41 rfl rfl (by decide) (fun h41 => ?_) (fun h41 => ?_)
        · skip
          refine z_aload_n (pc := 46) dX11_blue_46 rfl ?_
          refine z_bipush (pc := 47) (v := 20) dX11_blue_47 (by decide) ?_
          refine z_iv1 (pc := 49) dX11_blue_49 kv_X11_153 rfl (by decide) (by decide) rfl rfl ?_
          refine c_X11_begins (by first | exact hT | exact bgM_TM hT | exact bgM_TM (bgM_TM hT)) ?_
          refine z_iconst (pc := 52) (v := 0) dX11_blue_52 (by decide) ?_
          refine z_iret (pc := 53) dX11_blue_53 rfl ?_
          first
          | (exfalso; omega)
          | (rw [ek] at h; simp (disch := omega) only [blueOf, bluB, if_pos, if_neg, if_true] at h; exact h _ rfl)
          | (rw [ek] at h; simp [blueOf, bluB] at h; exact h _ rfl)
          | (rw [ek] at h; simp [blueOf, bluB, h41] at h; exact h _ rfl)
        · skip
          refine z_iconst (pc := 44) (v := 1) dX11_blue_44 (by decide) ?_
          refine z_iret (pc := 45) dX11_blue_45 rfl ?_
          first
          | (exfalso; omega)
          | (rw [ek] at h; simp (disch := omega) only [blueOf, bluB, if_pos, if_neg, if_true] at h; exact h _ rfl)
          | (rw [ek] at h; simp [blueOf, bluB] at h; exact h _ rfl)
          | (rw [ek] at h; simp [blueOf, bluB, h41] at h; exact h _ rfl)
    · skip
      refine z_aload_n (pc := 10) dX11_blue_10 rfl ?_
      refine z_bipush (pc := 11) (v := 21) dX11_blue_11 (by decide) ?_
      refine z_iv1 (pc := 13) dX11_blue_13 kv_X11_153 rfl (by decide) (by decide) rfl rfl ?_
      refine c_X11_begins (by first | exact hT | exact bgM_TM hT | exact bgM_TM (bgM_TM hT)) ?_
      refine z_iconst (pc := 16) (v := 1) dX11_blue_16 (by decide) ?_
      refine z_iret (pc := 17) dX11_blue_17 rfl ?_
      first
      | (exfalso; omega)
      | (rw [ek] at h; simp (disch := omega) only [blueOf, bluB, if_pos, if_neg, if_true] at h; exact h _ rfl)
      | (rw [ek] at h; simp [blueOf, bluB] at h; exact h _ rfl)
      | (rw [ek] at h; simp [blueOf, bluB, h41] at h; exact h _ rfl)
  · skip
    refine z_aload_n (pc := 0) dX11_blue_0 rfl ?_
    refine z_getR (pc := 1) (t := 33) dX11_blue_1 fk_X11_16 rfl (by decide) (by decide) (by decide) rfl ?_
    refine z_iload_n (pc := 4) dX11_blue_4 rfl ?_
    refine z_ialdN (pc := 5) p dX11_blue_5 rfl (by decide) hx (by show _ < 40; omega) ?_
    refine z_iconst (pc := 6) (v := 2) dX11_blue_6 (by decide) ?_
    refine zq_icmp_ne (pc := 7) (cy := 2) (tgt := 18) dX11_blue_7 rfl rfl (by decide) (fun h7 => ?_) (fun h7 => ?_)
    · skip
      refine z_aload_n (pc := 18) dX11_blue_18 rfl ?_
      refine z_getR (pc := 19) (t := 33) dX11_blue_19 fk_X11_16 rfl (by decide) (by decide) (by decide) rfl ?_
      refine z_iload_n (pc := 22) dX11_blue_22 rfl ?_
      refine z_ialdN (pc := 23) p dX11_blue_23 rfl (by decide) hx (by show _ < 40; omega) ?_
      refine z_iconst (pc := 24) (v := 4) dX11_blue_24 (by decide) ?_
      refine zq_icmp_ne (pc := 25) (cy := 4) (tgt := 46) dX11_blue_25 rfl rfl (by decide) (fun h25 => ?_) (fun h25 => ?_)
      · skip
        refine z_aload_n (pc := 46) dX11_blue_46 rfl ?_
        refine z_bipush (pc := 47) (v := 20) dX11_blue_47 (by decide) ?_
        refine z_iv1 (pc := 49) dX11_blue_49 kv_X11_153 rfl (by decide) (by decide) rfl rfl ?_
        refine c_X11_begins (by first | exact hT | exact bgM_TM hT | exact bgM_TM (bgM_TM hT)) ?_
        refine z_iconst (pc := 52) (v := 0) dX11_blue_52 (by decide) ?_
        refine z_iret (pc := 53) dX11_blue_53 rfl ?_
        first
        | (exfalso; omega)
        | (rw [ek] at h; simp (disch := omega) only [blueOf, bluB, if_pos, if_neg, if_true] at h; exact h _ rfl)
        | (rw [ek] at h; simp [blueOf, bluB] at h; exact h _ rfl)
        | (rw [ek] at h; simp [blueOf, bluB, h41] at h; exact h _ rfl)
      · skip
        refine z_aload_n (pc := 28) dX11_blue_28 rfl ?_
        refine z_bipush (pc := 29) (v := 22) dX11_blue_29 (by decide) ?_
        refine z_iv1 (pc := 31) dX11_blue_31 kv_X11_153 rfl (by decide) (by decide) rfl rfl ?_
        refine c_X11_begins (by first | exact hT | exact bgM_TM hT | exact bgM_TM (bgM_TM hT)) ?_
        refine z_aload_n (pc := 34) dX11_blue_34 rfl ?_
        refine z_getR (pc := 35) (t := 34) dX11_blue_35 fk_X11_19 rfl (by decide) (by decide) (by decide) rfl ?_
        refine z_iload_n (pc := 38) dX11_blue_38 rfl ?_
        refine z_ialdN (pc := 39) p dX11_blue_39 rfl (by decide) hx (by show _ < 40; omega) ?_
        refine z_iconst (pc := 40) (v := 2) dX11_blue_40 (by decide) ?_
        rw [bgM_row (by omega) (by omega)]
        refine zq_icmp_ne (pc := 41) (cy := 2) (tgt := 46) dX11_blue_41 rfl rfl (by decide) (fun h41 => ?_) (fun h41 => ?_)
        · skip
          refine z_aload_n (pc := 46) dX11_blue_46 rfl ?_
          refine z_bipush (pc := 47) (v := 20) dX11_blue_47 (by decide) ?_
          refine z_iv1 (pc := 49) dX11_blue_49 kv_X11_153 rfl (by decide) (by decide) rfl rfl ?_
          refine c_X11_begins (by first | exact hT | exact bgM_TM hT | exact bgM_TM (bgM_TM hT)) ?_
          refine z_iconst (pc := 52) (v := 0) dX11_blue_52 (by decide) ?_
          refine z_iret (pc := 53) dX11_blue_53 rfl ?_
          first
          | (exfalso; omega)
          | (rw [ek] at h; simp (disch := omega) only [blueOf, bluB, if_pos, if_neg, if_true] at h; exact h _ rfl)
          | (rw [ek] at h; simp [blueOf, bluB] at h; exact h _ rfl)
          | (rw [ek] at h; simp [blueOf, bluB, h41] at h; exact h _ rfl)
        · skip
          refine z_iconst (pc := 44) (v := 1) dX11_blue_44 (by decide) ?_
          refine z_iret (pc := 45) dX11_blue_45 rfl ?_
          first
          | (exfalso; omega)
          | (rw [ek] at h; simp (disch := omega) only [blueOf, bluB, if_pos, if_neg, if_true] at h; exact h _ rfl)
          | (rw [ek] at h; simp [blueOf, bluB] at h; exact h _ rfl)
          | (rw [ek] at h; simp [blueOf, bluB, h41] at h; exact h _ rfl)
    · skip
      refine z_aload_n (pc := 10) dX11_blue_10 rfl ?_
      refine z_bipush (pc := 11) (v := 21) dX11_blue_11 (by decide) ?_
      refine z_iv1 (pc := 13) dX11_blue_13 kv_X11_153 rfl (by decide) (by decide) rfl rfl ?_
      refine c_X11_begins (by first | exact hT | exact bgM_TM hT | exact bgM_TM (bgM_TM hT)) ?_
      refine z_iconst (pc := 16) (v := 1) dX11_blue_16 (by decide) ?_
      refine z_iret (pc := 17) dX11_blue_17 rfl ?_
      first
      | (exfalso; omega)
      | (rw [ek] at h; simp (disch := omega) only [blueOf, bluB, if_pos, if_neg, if_true] at h; exact h _ rfl)
      | (rw [ek] at h; simp [blueOf, bluB] at h; exact h _ rfl)
      | (rw [ek] at h; simp [blueOf, bluB, h41] at h; exact h _ rfl)
  · skip
    refine z_aload_n (pc := 0) dX11_blue_0 rfl ?_
    refine z_getR (pc := 1) (t := 33) dX11_blue_1 fk_X11_16 rfl (by decide) (by decide) (by decide) rfl ?_
    refine z_iload_n (pc := 4) dX11_blue_4 rfl ?_
    refine z_ialdN (pc := 5) p dX11_blue_5 rfl (by decide) hx (by show _ < 40; omega) ?_
    refine z_iconst (pc := 6) (v := 2) dX11_blue_6 (by decide) ?_
    refine zq_icmp_ne (pc := 7) (cy := 2) (tgt := 18) dX11_blue_7 rfl rfl (by decide) (fun h7 => ?_) (fun h7 => ?_)
    · skip
      refine z_aload_n (pc := 18) dX11_blue_18 rfl ?_
      refine z_getR (pc := 19) (t := 33) dX11_blue_19 fk_X11_16 rfl (by decide) (by decide) (by decide) rfl ?_
      refine z_iload_n (pc := 22) dX11_blue_22 rfl ?_
      refine z_ialdN (pc := 23) p dX11_blue_23 rfl (by decide) hx (by show _ < 40; omega) ?_
      refine z_iconst (pc := 24) (v := 4) dX11_blue_24 (by decide) ?_
      refine zq_icmp_ne (pc := 25) (cy := 4) (tgt := 46) dX11_blue_25 rfl rfl (by decide) (fun h25 => ?_) (fun h25 => ?_)
      · skip
        refine z_aload_n (pc := 46) dX11_blue_46 rfl ?_
        refine z_bipush (pc := 47) (v := 20) dX11_blue_47 (by decide) ?_
        refine z_iv1 (pc := 49) dX11_blue_49 kv_X11_153 rfl (by decide) (by decide) rfl rfl ?_
        refine c_X11_begins (by first | exact hT | exact bgM_TM hT | exact bgM_TM (bgM_TM hT)) ?_
        refine z_iconst (pc := 52) (v := 0) dX11_blue_52 (by decide) ?_
        refine z_iret (pc := 53) dX11_blue_53 rfl ?_
        first
        | (exfalso; omega)
        | (rw [ek] at h; simp (disch := omega) only [blueOf, bluB, if_pos, if_neg, if_true] at h; exact h _ rfl)
        | (rw [ek] at h; simp [blueOf, bluB] at h; exact h _ rfl)
        | (rw [ek] at h; simp [blueOf, bluB, h41] at h; exact h _ rfl)
      · skip
        refine z_aload_n (pc := 28) dX11_blue_28 rfl ?_
        refine z_bipush (pc := 29) (v := 22) dX11_blue_29 (by decide) ?_
        refine z_iv1 (pc := 31) dX11_blue_31 kv_X11_153 rfl (by decide) (by decide) rfl rfl ?_
        refine c_X11_begins (by first | exact hT | exact bgM_TM hT | exact bgM_TM (bgM_TM hT)) ?_
        refine z_aload_n (pc := 34) dX11_blue_34 rfl ?_
        refine z_getR (pc := 35) (t := 34) dX11_blue_35 fk_X11_19 rfl (by decide) (by decide) (by decide) rfl ?_
        refine z_iload_n (pc := 38) dX11_blue_38 rfl ?_
        refine z_ialdN (pc := 39) p dX11_blue_39 rfl (by decide) hx (by show _ < 40; omega) ?_
        refine z_iconst (pc := 40) (v := 2) dX11_blue_40 (by decide) ?_
        rw [bgM_row (by omega) (by omega)]
        refine zq_icmp_ne (pc := 41) (cy := 2) (tgt := 46) dX11_blue_41 rfl rfl (by decide) (fun h41 => ?_) (fun h41 => ?_)
        · skip
          refine z_aload_n (pc := 46) dX11_blue_46 rfl ?_
          refine z_bipush (pc := 47) (v := 20) dX11_blue_47 (by decide) ?_
          refine z_iv1 (pc := 49) dX11_blue_49 kv_X11_153 rfl (by decide) (by decide) rfl rfl ?_
          refine c_X11_begins (by first | exact hT | exact bgM_TM hT | exact bgM_TM (bgM_TM hT)) ?_
          refine z_iconst (pc := 52) (v := 0) dX11_blue_52 (by decide) ?_
          refine z_iret (pc := 53) dX11_blue_53 rfl ?_
          first
          | (exfalso; omega)
          | (rw [ek] at h; simp (disch := omega) only [blueOf, bluB, if_pos, if_neg, if_true] at h; exact h _ rfl)
          | (rw [ek] at h; simp [blueOf, bluB] at h; exact h _ rfl)
          | (rw [ek] at h; simp [blueOf, bluB, h41] at h; exact h _ rfl)
        · skip
          refine z_iconst (pc := 44) (v := 1) dX11_blue_44 (by decide) ?_
          refine z_iret (pc := 45) dX11_blue_45 rfl ?_
          first
          | (exfalso; omega)
          | (rw [ek] at h; simp (disch := omega) only [blueOf, bluB, if_pos, if_neg, if_true] at h; exact h _ rfl)
          | (rw [ek] at h; simp [blueOf, bluB] at h; exact h _ rfl)
          | (rw [ek] at h; simp [blueOf, bluB, h41] at h; exact h _ rfl)
    · skip
      refine z_aload_n (pc := 10) dX11_blue_10 rfl ?_
      refine z_bipush (pc := 11) (v := 21) dX11_blue_11 (by decide) ?_
      refine z_iv1 (pc := 13) dX11_blue_13 kv_X11_153 rfl (by decide) (by decide) rfl rfl ?_
      refine c_X11_begins (by first | exact hT | exact bgM_TM hT | exact bgM_TM (bgM_TM hT)) ?_
      refine z_iconst (pc := 16) (v := 1) dX11_blue_16 (by decide) ?_
      refine z_iret (pc := 17) dX11_blue_17 rfl ?_
      first
      | (exfalso; omega)
      | (rw [ek] at h; simp (disch := omega) only [blueOf, bluB, if_pos, if_neg, if_true] at h; exact h _ rfl)
      | (rw [ek] at h; simp [blueOf, bluB] at h; exact h _ rfl)
      | (rw [ek] at h; simp [blueOf, bluB, h41] at h; exact h _ rfl)

theorem c_mlent {l : Launch} {G : Gx} {d : Nat} {σ : Sg} {Q : Option Value → Sg → Prop} {p : Nat} {x : Int32} (hp : p < 40) (hx : x.toInt = (p : Int)) (hT : TM σ) (hk0 : 0 ≤ (σ.1 33 p).toInt) (hk1 : (σ.1 33 p).toInt < 5) (h : ∀ r : Int32, r.toInt = lentOf (σ.1 33 p).toInt (σ.1 34 p).toInt → Q (some (.int r)) (bgs σ (lenB (σ.1 33 p).toInt (σ.1 34 p).toInt))) : Z l G M_X11_lentAll (d + 2) 0 [some (.ref 1), some (.int x)] [] σ Q := by
  refine z_sub (L' := [some (.ref 1), some (.int x), none, none]) ⟨rfl, rfl, trivial⟩ ?_
  refine z_aload_n (pc := 0) dX11_lentAll_0 rfl ?_
  refine z_bipush (pc := 1) (v := 30) dX11_lentAll_1 (by decide) ?_
  refine z_iv1 (pc := 3) dX11_lentAll_3 kv_X11_153 rfl (by decide) (by decide) rfl rfl ?_
  refine c_X11_begins (by first | exact hT | exact bgM_TM hT | exact bgM_TM (bgM_TM hT)) ?_
  refine z_aload_n (pc := 6) dX11_lentAll_6 rfl ?_
  refine z_iload_n (pc := 7) dX11_lentAll_7 rfl ?_
  refine z_iv1 (pc := 8) dX11_lentAll_8 kv_X11_157 rfl (by decide) (by decide) rfl rfl ?_
  have e33 : (bgM σ 30).1 33 = σ.1 33 := bgM_row (by omega) (by omega)
  have e34 : (bgM σ 30).1 34 = σ.1 34 := bgM_row (by omega) (by omega)
  refine c_mred hp hx (bgM_TM hT) (by rw [e33]; exact hk0) (by rw [e33]; exact hk1) (fun rr err => ?_)
  rw [e33, e34] at err ⊢
  refine z_istore_n (pc := 11) dX11_lentAll_11 rfl rfl (by dsimp only [setI, setL, List.set]) ?_
  refine z_iload_n (pc := 12) dX11_lentAll_12 rfl ?_
  refine z_aload_n (pc := 13) dX11_lentAll_13 rfl ?_
  refine z_iload_n (pc := 14) dX11_lentAll_14 rfl ?_
  refine z_iv1 (pc := 15) dX11_lentAll_15 kv_X11_160 rfl (by decide) (by decide) rfl rfl ?_
  have e33' : (bgs (bgM σ 30) (redB (σ.1 33 p).toInt (σ.1 34 p).toInt)).1 33 = σ.1 33 := by rw [bgs_row (by omega) (by omega), e33]
  have e34' : (bgs (bgM σ 30) (redB (σ.1 33 p).toInt (σ.1 34 p).toInt)).1 34 = σ.1 34 := by rw [bgs_row (by omega) (by omega), e34]
  refine c_mblue hp hx (bgs_TM _ _ (bgM_TM hT)) (by rw [e33']; exact hk0) (by rw [e33']; exact hk1) (fun rb erb => ?_)
  rw [e33', e34'] at erb ⊢
  have hr1 := red_rng (σ.1 33 p).toInt (σ.1 34 p).toInt
  have hb1 := blu_rng (σ.1 33 p).toInt (σ.1 34 p).toInt
  refine z_iaddT (pc := 18) dX11_lentAll_18 rfl rfl (by omega) (by omega) (fun v18 e18 => ?_)
  refine z_istore_n (pc := 19) dX11_lentAll_19 rfl rfl (by dsimp only [setI, setL, List.set]) ?_
  refine z_iload_n (pc := 20) dX11_lentAll_20 rfl ?_
  refine zq_if_ne (pc := 21) (tgt := 28) dX11_lentAll_21 rfl rfl (fun h21 => ?_) (fun h21 => ?_)
  · skip
    refine z_iload_n (pc := 28) dX11_lentAll_28 rfl ?_
    refine z_iret (pc := 29) dX11_lentAll_29 rfl ?_
    rw [← bgs_app, ← bgs_cons]
    refine h _ ?_
    unfold lentOf
    first | (rw [if_pos (by omega)]; rfl) | (rw [if_neg (by omega)]; omega)
  · skip
    refine z_iconst (pc := 24) (v := 1) dX11_lentAll_24 (by decide) ?_
    refine z_goto (pc := 25) (tgt := 29) dX11_lentAll_25 rfl ?_
    refine z_iret (pc := 29) dX11_lentAll_29 rfl ?_
    rw [← bgs_app, ← bgs_cons]
    refine h _ ?_
    unfold lentOf
    first | (rw [if_pos (by omega)]; rfl) | (rw [if_neg (by omega)]; omega)

theorem c_mall {l : Launch} {G : Gx} {d : Nat} {σ : Sg} {Q : Option Value → Sg → Prop} {p : Nat} {x : Int32} (hp : p < 40) (hx : x.toInt = (p : Int)) (hT : TM σ) (hk0 : 0 ≤ (σ.1 33 p).toInt) (hk1 : (σ.1 33 p).toInt < 5) (h : ∀ r : Int32, r.toInt = allOf (σ.1 33 p).toInt (σ.1 34 p).toInt → Q (some (.int r)) (bgs σ (allB (σ.1 33 p).toInt (σ.1 34 p).toInt))) : Z l G M_X11_all (d + 3) 0 [some (.ref 1), some (.int x)] [] σ Q := by
  refine z_sub (L' := [some (.ref 1), some (.int x)]) ⟨rfl, rfl, trivial⟩ ?_
  refine z_aload_n (pc := 0) dX11_all_0 rfl ?_
  refine z_getR (pc := 1) (t := 33) dX11_all_1 fk_X11_16 rfl (by decide) (by decide) (by decide) rfl ?_
  refine z_iload_n (pc := 4) dX11_all_4 rfl ?_
  refine z_ialdN (pc := 5) p dX11_all_5 rfl (by decide) hx (by show _ < 40; omega) ?_
  refine z_iconst (pc := 6) (v := 3) dX11_all_6 (by decide) ?_
  refine zq_icmp_ne (pc := 7) (cy := 3) (tgt := 24) dX11_all_7 rfl rfl (by decide) (fun h7 => ?_) (fun h7 => ?_)
  · skip
    refine z_aload_n (pc := 24) dX11_all_24 rfl ?_
    refine z_iload_n (pc := 25) dX11_all_25 rfl ?_
    refine z_iv1 (pc := 26) dX11_all_26 kv_X11_163 rfl (by decide) (by decide) rfl rfl ?_
    refine c_mlent hp hx hT hk0 hk1 (fun rl erl => ?_)
    have hl1 := len_rng (σ.1 33 p).toInt (σ.1 34 p).toInt
    refine z_iret (pc := 29) dX11_all_29 rfl ?_
    first | (rw [show allB (σ.1 33 p).toInt (σ.1 34 p).toInt = 31 :: lenB (σ.1 33 p).toInt (σ.1 34 p).toInt from if_pos (by omega), show allOf (σ.1 33 p).toInt (σ.1 34 p).toInt = 1 + lentOf (σ.1 33 p).toInt (σ.1 34 p).toInt from if_pos (by omega)] at h; exact h _ (by omega)) | (rw [show allB (σ.1 33 p).toInt (σ.1 34 p).toInt = lenB (σ.1 33 p).toInt (σ.1 34 p).toInt from if_neg (by omega), show allOf (σ.1 33 p).toInt (σ.1 34 p).toInt = lentOf (σ.1 33 p).toInt (σ.1 34 p).toInt from if_neg (by omega)] at h; exact h _ (by omega))
  · skip
    refine z_aload_n (pc := 10) dX11_all_10 rfl ?_
    refine z_bipush (pc := 11) (v := 31) dX11_all_11 (by decide) ?_
    refine z_iv1 (pc := 13) dX11_all_13 kv_X11_153 rfl (by decide) (by decide) rfl rfl ?_
    refine c_X11_begins (by first | exact hT | exact bgM_TM hT | exact bgM_TM (bgM_TM hT)) ?_
    refine z_iconst (pc := 16) (v := 1) dX11_all_16 (by decide) ?_
    refine z_aload_n (pc := 17) dX11_all_17 rfl ?_
    refine z_iload_n (pc := 18) dX11_all_18 rfl ?_
    refine z_iv1 (pc := 19) dX11_all_19 kv_X11_163 rfl (by decide) (by decide) rfl rfl ?_
    have e33 : (bgM σ 31).1 33 = σ.1 33 := bgM_row (by omega) (by omega)
    have e34 : (bgM σ 31).1 34 = σ.1 34 := bgM_row (by omega) (by omega)
    refine c_mlent hp hx (bgM_TM hT) (by rw [e33]; exact hk0) (by rw [e33]; exact hk1) (fun rl erl => ?_)
    rw [e33, e34] at erl ⊢
    have hl1 := len_rng (σ.1 33 p).toInt (σ.1 34 p).toInt
    refine z_iaddT (pc := 22) (cx := 1) dX11_all_22 (by decide) rfl (by omega) (by omega) (fun v22 e22 => ?_)
    refine z_iret (pc := 23) dX11_all_23 rfl ?_
    first | (rw [show allB (σ.1 33 p).toInt (σ.1 34 p).toInt = 31 :: lenB (σ.1 33 p).toInt (σ.1 34 p).toInt from if_pos (by omega), show allOf (σ.1 33 p).toInt (σ.1 34 p).toInt = 1 + lentOf (σ.1 33 p).toInt (σ.1 34 p).toInt from if_pos (by omega)] at h; exact h _ (by omega)) | (rw [show allB (σ.1 33 p).toInt (σ.1 34 p).toInt = lenB (σ.1 33 p).toInt (σ.1 34 p).toInt from if_neg (by omega), show allOf (σ.1 33 p).toInt (σ.1 34 p).toInt = lentOf (σ.1 33 p).toInt (σ.1 34 p).toInt from if_neg (by omega)] at h; exact h _ (by omega))

theorem c_mworth {l : Launch} {G : Gx} {d : Nat} {σ : Sg} {Q : Option Value → Sg → Prop} {p : Nat} {x : Int32} (hp : p < 40) (hx : x.toInt = (p : Int)) (hT : TM σ) (hk0 : 0 ≤ (σ.1 33 p).toInt) (hk1 : (σ.1 33 p).toInt < 5) (h : ∀ r : Int32, r.toInt = worV (σ.1 33 p).toInt (σ.1 34 p).toInt → Q (some (.int r)) (bgs σ (worB (σ.1 33 p).toInt (σ.1 34 p).toInt))) : Z l G M_X11_worth (d + 4) 0 [some (.ref 1), some (.int x)] [] σ Q := by
  refine z_sub (L' := [some (.ref 1), some (.int x)]) ⟨rfl, rfl, trivial⟩ ?_
  rcases (show (σ.1 33 p).toInt = 4 ∨ (σ.1 33 p).toInt = 2 ∨ ((σ.1 33 p).toInt ≠ 4 ∧ (σ.1 33 p).toInt ≠ 2) by omega) with ek | ek | ek
  · skip
    refine z_aload_n (pc := 0) dX11_worth_0 rfl ?_
    refine z_getR (pc := 1) (t := 33) dX11_worth_1 fk_X11_16 rfl (by decide) (by decide) (by decide) rfl ?_
    refine z_iload_n (pc := 4) dX11_worth_4 rfl ?_
    refine z_ialdN (pc := 5) p dX11_worth_5 rfl (by decide) hx (by show _ < 40; omega) ?_
    refine z_iconst (pc := 6) (v := 4) dX11_worth_6 (by decide) ?_
    refine zq_icmp_ne (pc := 7) (cy := 4) (tgt := 22) dX11_worth_7 rfl rfl (by decide) (fun h7 => ?_) (fun h7 => ?_)
    · skip
      exfalso; omega
    · skip
      refine z_aload_n (pc := 10) dX11_worth_10 rfl ?_
      refine z_bipush (pc := 11) (v := 42) dX11_worth_11 (by decide) ?_
      refine z_iv1 (pc := 13) dX11_worth_13 kv_X11_153 rfl (by decide) (by decide) rfl rfl ?_
      refine c_X11_begins (by first | exact hT | exact bgM_TM hT | exact bgM_TM (bgM_TM hT)) ?_
      refine z_aload_n (pc := 16) dX11_worth_16 rfl ?_
      refine z_iload_n (pc := 17) dX11_worth_17 rfl ?_
      refine z_iv1 (pc := 18) dX11_worth_18 kv_X11_163 rfl (by decide) (by decide) rfl rfl ?_
      have e33 : (bgM σ 42).1 33 = σ.1 33 := bgM_row (by omega) (by omega)
      have e34 : (bgM σ 42).1 34 = σ.1 34 := bgM_row (by omega) (by omega)
      refine c_mlent hp hx (bgM_TM hT) (by rw [e33]; exact hk0) (by rw [e33]; exact hk1) (fun rl erl => ?_)
      rw [e33, e34] at erl ⊢
      have hl1 := len_rng (σ.1 33 p).toInt (σ.1 34 p).toInt
      refine z_iret (pc := 21) dX11_worth_21 rfl ?_
      first
      | (exfalso; omega)
      | (rw [show worV (σ.1 33 p).toInt (σ.1 34 p).toInt = lentOf (σ.1 33 p).toInt (σ.1 34 p).toInt from if_pos ek, show worB (σ.1 33 p).toInt (σ.1 34 p).toInt = 42 :: lenB (σ.1 33 p).toInt (σ.1 34 p).toInt from if_pos ek] at h; exact h _ erl)
  · skip
    refine z_aload_n (pc := 0) dX11_worth_0 rfl ?_
    refine z_getR (pc := 1) (t := 33) dX11_worth_1 fk_X11_16 rfl (by decide) (by decide) (by decide) rfl ?_
    refine z_iload_n (pc := 4) dX11_worth_4 rfl ?_
    refine z_ialdN (pc := 5) p dX11_worth_5 rfl (by decide) hx (by show _ < 40; omega) ?_
    refine z_iconst (pc := 6) (v := 4) dX11_worth_6 (by decide) ?_
    refine zq_icmp_ne (pc := 7) (cy := 4) (tgt := 22) dX11_worth_7 rfl rfl (by decide) (fun h7 => ?_) (fun h7 => ?_)
    · skip
      refine z_aload_n (pc := 22) dX11_worth_22 rfl ?_
      refine z_getR (pc := 23) (t := 33) dX11_worth_23 fk_X11_16 rfl (by decide) (by decide) (by decide) rfl ?_
      refine z_iload_n (pc := 26) dX11_worth_26 rfl ?_
      refine z_ialdN (pc := 27) p dX11_worth_27 rfl (by decide) hx (by show _ < 40; omega) ?_
      refine z_iconst (pc := 28) (v := 2) dX11_worth_28 (by decide) ?_
      refine zq_icmp_ne (pc := 29) (cy := 2) (tgt := 38) dX11_worth_29 rfl rfl (by decide) (fun h29 => ?_) (fun h29 => ?_)
      · exfalso; omega
      · skip
        refine z_aload_n (pc := 32) dX11_worth_32 rfl ?_
        refine z_bipush (pc := 33) (v := 41) dX11_worth_33 (by decide) ?_
        refine z_iv1 (pc := 35) dX11_worth_35 kv_X11_153 rfl (by decide) (by decide) rfl rfl ?_
        refine c_X11_begins (by first | exact hT | exact bgM_TM hT | exact bgM_TM (bgM_TM hT)) ?_
        
        refine z_aload_n (pc := 38) dX11_worth_38 rfl ?_
        refine z_bipush (pc := 39) (v := 40) dX11_worth_39 (by decide) ?_
        refine z_iv1 (pc := 41) dX11_worth_41 kv_X11_153 rfl (by decide) (by decide) rfl rfl ?_
        refine c_X11_begins (by first | exact hT | exact bgM_TM hT | exact bgM_TM (bgM_TM hT)) ?_
        refine z_bipush (pc := 44) (v := 10) dX11_worth_44 (by decide) ?_
        refine z_aload_n (pc := 46) dX11_worth_46 rfl ?_
        refine z_iload_n (pc := 47) dX11_worth_47 rfl ?_
        refine z_iv1 (pc := 48) dX11_worth_48 kv_X11_166 rfl (by decide) (by decide) rfl rfl ?_
        have e33 : (bgM (bgM σ 41) 40).1 33 = σ.1 33 := by rw [bgM_row (by omega) (by omega), bgM_row (by omega) (by omega)]
        have e34 : (bgM (bgM σ 41) 40).1 34 = σ.1 34 := by rw [bgM_row (by omega) (by omega), bgM_row (by omega) (by omega)]
        refine c_mall hp hx (bgM_TM (bgM_TM hT)) (by rw [e33]; exact hk0) (by rw [e33]; exact hk1) (fun rl erl => ?_)
        rw [e33, e34] at erl ⊢
        have hl1 := all_rng (σ.1 33 p).toInt (σ.1 34 p).toInt
        have e57 : (bgs (bgM (bgM σ 41) 40) (allB (σ.1 33 p).toInt (σ.1 34 p).toInt)).1 33 p = σ.1 33 p := by rw [bgs_row (by omega) (by omega), e33]
        refine z_imulT (pc := 51) (cx := 10) dX11_worth_51 (by decide) rfl (by omega) (by omega) (fun v51 e51 => ?_)
        refine z_aload_n (pc := 52) dX11_worth_52 rfl ?_
        refine z_getR (pc := 53) (t := 33) dX11_worth_53 fk_X11_16 rfl (by decide) (by decide) (by decide) rfl ?_
        refine z_iload_n (pc := 56) dX11_worth_56 rfl ?_
        refine z_ialdN (pc := 57) p dX11_worth_57 rfl (by decide) hx (by show _ < 40; omega) ?_
        refine z_iconst (pc := 58) (v := 2) dX11_worth_58 (by decide) ?_
        rw [e57]
        refine zq_icmp_ne (pc := 59) (cy := 2) (tgt := 66) dX11_worth_59 rfl rfl (by decide) (fun h59 => ?_) (fun h59 => ?_)
        · exfalso; omega
        · skip
          refine z_iconst (pc := 62) (v := 5) dX11_worth_62 (by decide) ?_
          refine z_goto (pc := 63) (tgt := 67) dX11_worth_63 rfl ?_
          refine z_isubT (pc := 67) (cy := 5) dX11_worth_67 rfl (by decide) (by omega) (by omega) (fun v67 e67 => ?_)
          refine z_iret (pc := 68) dX11_worth_68 rfl ?_
          first
          | (exfalso; omega)
          | (rw [show worV (σ.1 33 p).toInt (σ.1 34 p).toInt = 10 * allOf (σ.1 33 p).toInt (σ.1 34 p).toInt - 5 from (if_neg (by omega)).trans (if_pos ek), show worB (σ.1 33 p).toInt (σ.1 34 p).toInt = 41 :: 40 :: allB (σ.1 33 p).toInt (σ.1 34 p).toInt from (if_neg (by omega)).trans (if_pos ek)] at h; exact h _ (by omega))
    · skip
      exfalso; omega
  · skip
    refine z_aload_n (pc := 0) dX11_worth_0 rfl ?_
    refine z_getR (pc := 1) (t := 33) dX11_worth_1 fk_X11_16 rfl (by decide) (by decide) (by decide) rfl ?_
    refine z_iload_n (pc := 4) dX11_worth_4 rfl ?_
    refine z_ialdN (pc := 5) p dX11_worth_5 rfl (by decide) hx (by show _ < 40; omega) ?_
    refine z_iconst (pc := 6) (v := 4) dX11_worth_6 (by decide) ?_
    refine zq_icmp_ne (pc := 7) (cy := 4) (tgt := 22) dX11_worth_7 rfl rfl (by decide) (fun h7 => ?_) (fun h7 => ?_)
    · skip
      refine z_aload_n (pc := 22) dX11_worth_22 rfl ?_
      refine z_getR (pc := 23) (t := 33) dX11_worth_23 fk_X11_16 rfl (by decide) (by decide) (by decide) rfl ?_
      refine z_iload_n (pc := 26) dX11_worth_26 rfl ?_
      refine z_ialdN (pc := 27) p dX11_worth_27 rfl (by decide) hx (by show _ < 40; omega) ?_
      refine z_iconst (pc := 28) (v := 2) dX11_worth_28 (by decide) ?_
      refine zq_icmp_ne (pc := 29) (cy := 2) (tgt := 38) dX11_worth_29 rfl rfl (by decide) (fun h29 => ?_) (fun h29 => ?_)
      · skip
        refine z_aload_n (pc := 38) dX11_worth_38 rfl ?_
        refine z_bipush (pc := 39) (v := 40) dX11_worth_39 (by decide) ?_
        refine z_iv1 (pc := 41) dX11_worth_41 kv_X11_153 rfl (by decide) (by decide) rfl rfl ?_
        refine c_X11_begins (by first | exact hT | exact bgM_TM hT | exact bgM_TM (bgM_TM hT)) ?_
        refine z_bipush (pc := 44) (v := 10) dX11_worth_44 (by decide) ?_
        refine z_aload_n (pc := 46) dX11_worth_46 rfl ?_
        refine z_iload_n (pc := 47) dX11_worth_47 rfl ?_
        refine z_iv1 (pc := 48) dX11_worth_48 kv_X11_166 rfl (by decide) (by decide) rfl rfl ?_
        have e33 : (bgM σ 40).1 33 = σ.1 33 := by rw [bgM_row (by omega) (by omega)]
        have e34 : (bgM σ 40).1 34 = σ.1 34 := by rw [bgM_row (by omega) (by omega)]
        refine c_mall hp hx (bgM_TM hT) (by rw [e33]; exact hk0) (by rw [e33]; exact hk1) (fun rl erl => ?_)
        rw [e33, e34] at erl ⊢
        have hl1 := all_rng (σ.1 33 p).toInt (σ.1 34 p).toInt
        have e57 : (bgs (bgM σ 40) (allB (σ.1 33 p).toInt (σ.1 34 p).toInt)).1 33 p = σ.1 33 p := by rw [bgs_row (by omega) (by omega), e33]
        refine z_imulT (pc := 51) (cx := 10) dX11_worth_51 (by decide) rfl (by omega) (by omega) (fun v51 e51 => ?_)
        refine z_aload_n (pc := 52) dX11_worth_52 rfl ?_
        refine z_getR (pc := 53) (t := 33) dX11_worth_53 fk_X11_16 rfl (by decide) (by decide) (by decide) rfl ?_
        refine z_iload_n (pc := 56) dX11_worth_56 rfl ?_
        refine z_ialdN (pc := 57) p dX11_worth_57 rfl (by decide) hx (by show _ < 40; omega) ?_
        refine z_iconst (pc := 58) (v := 2) dX11_worth_58 (by decide) ?_
        rw [e57]
        refine zq_icmp_ne (pc := 59) (cy := 2) (tgt := 66) dX11_worth_59 rfl rfl (by decide) (fun h59 => ?_) (fun h59 => ?_)
        · skip
          refine z_iconst (pc := 66) (v := 0) dX11_worth_66 (by decide) ?_
          refine z_isubT (pc := 67) (cy := 0) dX11_worth_67 rfl (by decide) (by omega) (by omega) (fun v67 e67 => ?_)
          refine z_iret (pc := 68) dX11_worth_68 rfl ?_
          first
          | (exfalso; omega)
          | (rw [show worV (σ.1 33 p).toInt (σ.1 34 p).toInt = 10 * allOf (σ.1 33 p).toInt (σ.1 34 p).toInt from (if_neg (by omega)).trans (if_neg (by omega)), show worB (σ.1 33 p).toInt (σ.1 34 p).toInt = 40 :: allB (σ.1 33 p).toInt (σ.1 34 p).toInt from (if_neg (by omega)).trans (if_neg (by omega))] at h; exact h _ (by omega))
        · skip
          refine z_iconst (pc := 62) (v := 5) dX11_worth_62 (by decide) ?_
          refine z_goto (pc := 63) (tgt := 67) dX11_worth_63 rfl ?_
          refine z_isubT (pc := 67) (cy := 5) dX11_worth_67 rfl (by decide) (by omega) (by omega) (fun v67 e67 => ?_)
          refine z_iret (pc := 68) dX11_worth_68 rfl ?_
          first
          | (exfalso; omega)
          | (rw [show worV (σ.1 33 p).toInt (σ.1 34 p).toInt = 10 * allOf (σ.1 33 p).toInt (σ.1 34 p).toInt from (if_neg (by omega)).trans (if_neg (by omega)), show worB (σ.1 33 p).toInt (σ.1 34 p).toInt = 40 :: allB (σ.1 33 p).toInt (σ.1 34 p).toInt from (if_neg (by omega)).trans (if_neg (by omega))] at h; exact h _ (by omega))
      · skip
        exfalso; omega
    · skip
      exfalso; omega

theorem c_masked {l : Launch} {G : Gx} {d : Nat} {σ : Sg} {Q : Option Value → Sg → Prop} {p : Nat} {x : Int32} {w : Int32} (hp : p < 40) (hx : x.toInt = (p : Int)) (hT : TM σ) (hk0 : 0 ≤ (σ.1 33 p).toInt) (hk1 : (σ.1 33 p).toInt < 5) (hw0 : 0 ≤ w.toInt) (hw1 : w.toInt < 4) (h : ∀ r : Int32, r.toInt = asV w.toInt (σ.1 33 p).toInt (σ.1 34 p).toInt → Q (some (.int r)) (bgs σ (asB w.toInt (σ.1 33 p).toInt (σ.1 34 p).toInt))) : Z l G M_X11_asked (d + 5) 0 [some (.ref 1), some (.int x), some (.int w)] [] σ Q := by
  refine z_sub (L' := [some (.ref 1), some (.int x), some (.int w)]) ⟨rfl, rfl, rfl, trivial⟩ ?_
  refine z_iload_n (pc := 0) dX11_asked_0 rfl ?_
  refine zq_if_ne (pc := 1) (tgt := 12) dX11_asked_1 rfl rfl (fun h1 => ?_) (fun h1 => ?_)
  · skip
    refine z_iload_n (pc := 12) dX11_asked_12 rfl ?_
    refine z_iconst (pc := 13) (v := 1) dX11_asked_13 (by decide) ?_
    refine zq_icmp_ne (pc := 14) (cy := 1) (tgt := 25) dX11_asked_14 rfl rfl (by decide) (fun h14 => ?_) (fun h14 => ?_)
    · skip
      refine z_iload_n (pc := 25) dX11_asked_25 rfl ?_
      refine z_iconst (pc := 26) (v := 2) dX11_asked_26 (by decide) ?_
      refine zq_icmp_ne (pc := 27) (cy := 2) (tgt := 38) dX11_asked_27 rfl rfl (by decide) (fun h27 => ?_) (fun h27 => ?_)
      · skip
        refine z_aload_n (pc := 38) dX11_asked_38 rfl ?_
        refine z_iload_n (pc := 39) dX11_asked_39 rfl ?_
        refine z_iv1 (pc := 40) dX11_asked_40 kv_X11_169 rfl (by decide) (by decide) rfl rfl ?_
        refine c_mworth hp hx hT hk0 hk1 (fun r er => ?_)
        refine z_iret (pc := 43) dX11_asked_43 rfl ?_
        first | (rw [show asV w.toInt (σ.1 33 p).toInt (σ.1 34 p).toInt = _ from if_pos (by omega), show asB w.toInt (σ.1 33 p).toInt (σ.1 34 p).toInt = _ from if_pos (by omega)] at h; exact h _ er) | (rw [show asV w.toInt (σ.1 33 p).toInt (σ.1 34 p).toInt = _ from (if_neg (by omega)).trans (if_pos (by omega)), show asB w.toInt (σ.1 33 p).toInt (σ.1 34 p).toInt = _ from (if_neg (by omega)).trans (if_pos (by omega))] at h; exact h _ er) | (rw [show asV w.toInt (σ.1 33 p).toInt (σ.1 34 p).toInt = _ from (if_neg (by omega)).trans ((if_neg (by omega)).trans (if_pos (by omega))), show asB w.toInt (σ.1 33 p).toInt (σ.1 34 p).toInt = _ from (if_neg (by omega)).trans ((if_neg (by omega)).trans (if_pos (by omega)))] at h; exact h _ er) | (rw [show asV w.toInt (σ.1 33 p).toInt (σ.1 34 p).toInt = _ from (if_neg (by omega)).trans ((if_neg (by omega)).trans (if_neg (by omega))), show asB w.toInt (σ.1 33 p).toInt (σ.1 34 p).toInt = _ from (if_neg (by omega)).trans ((if_neg (by omega)).trans (if_neg (by omega)))] at h; exact h _ er)
      · skip
        refine z_aload_n (pc := 30) dX11_asked_30 rfl ?_
        refine z_iload_n (pc := 31) dX11_asked_31 rfl ?_
        refine z_iv1 (pc := 32) dX11_asked_32 kv_X11_166 rfl (by decide) (by decide) rfl rfl ?_
        refine c_mall hp hx hT hk0 hk1 (fun r er => ?_)
        refine z_goto (pc := 35) (tgt := 43) dX11_asked_35 rfl ?_
        refine z_iret (pc := 43) dX11_asked_43 rfl ?_
        first | (rw [show asV w.toInt (σ.1 33 p).toInt (σ.1 34 p).toInt = _ from if_pos (by omega), show asB w.toInt (σ.1 33 p).toInt (σ.1 34 p).toInt = _ from if_pos (by omega)] at h; exact h _ er) | (rw [show asV w.toInt (σ.1 33 p).toInt (σ.1 34 p).toInt = _ from (if_neg (by omega)).trans (if_pos (by omega)), show asB w.toInt (σ.1 33 p).toInt (σ.1 34 p).toInt = _ from (if_neg (by omega)).trans (if_pos (by omega))] at h; exact h _ er) | (rw [show asV w.toInt (σ.1 33 p).toInt (σ.1 34 p).toInt = _ from (if_neg (by omega)).trans ((if_neg (by omega)).trans (if_pos (by omega))), show asB w.toInt (σ.1 33 p).toInt (σ.1 34 p).toInt = _ from (if_neg (by omega)).trans ((if_neg (by omega)).trans (if_pos (by omega)))] at h; exact h _ er) | (rw [show asV w.toInt (σ.1 33 p).toInt (σ.1 34 p).toInt = _ from (if_neg (by omega)).trans ((if_neg (by omega)).trans (if_neg (by omega))), show asB w.toInt (σ.1 33 p).toInt (σ.1 34 p).toInt = _ from (if_neg (by omega)).trans ((if_neg (by omega)).trans (if_neg (by omega)))] at h; exact h _ er)
    · skip
      refine z_aload_n (pc := 17) dX11_asked_17 rfl ?_
      refine z_iload_n (pc := 18) dX11_asked_18 rfl ?_
      refine z_iv1 (pc := 19) dX11_asked_19 kv_X11_160 rfl (by decide) (by decide) rfl rfl ?_
      refine c_mblue hp hx hT hk0 hk1 (fun r er => ?_)
      refine z_goto (pc := 22) (tgt := 43) dX11_asked_22 rfl ?_
      refine z_iret (pc := 43) dX11_asked_43 rfl ?_
      first | (rw [show asV w.toInt (σ.1 33 p).toInt (σ.1 34 p).toInt = _ from if_pos (by omega), show asB w.toInt (σ.1 33 p).toInt (σ.1 34 p).toInt = _ from if_pos (by omega)] at h; exact h _ er) | (rw [show asV w.toInt (σ.1 33 p).toInt (σ.1 34 p).toInt = _ from (if_neg (by omega)).trans (if_pos (by omega)), show asB w.toInt (σ.1 33 p).toInt (σ.1 34 p).toInt = _ from (if_neg (by omega)).trans (if_pos (by omega))] at h; exact h _ er) | (rw [show asV w.toInt (σ.1 33 p).toInt (σ.1 34 p).toInt = _ from (if_neg (by omega)).trans ((if_neg (by omega)).trans (if_pos (by omega))), show asB w.toInt (σ.1 33 p).toInt (σ.1 34 p).toInt = _ from (if_neg (by omega)).trans ((if_neg (by omega)).trans (if_pos (by omega)))] at h; exact h _ er) | (rw [show asV w.toInt (σ.1 33 p).toInt (σ.1 34 p).toInt = _ from (if_neg (by omega)).trans ((if_neg (by omega)).trans (if_neg (by omega))), show asB w.toInt (σ.1 33 p).toInt (σ.1 34 p).toInt = _ from (if_neg (by omega)).trans ((if_neg (by omega)).trans (if_neg (by omega)))] at h; exact h _ er)
  · skip
    refine z_aload_n (pc := 4) dX11_asked_4 rfl ?_
    refine z_iload_n (pc := 5) dX11_asked_5 rfl ?_
    refine z_iv1 (pc := 6) dX11_asked_6 kv_X11_157 rfl (by decide) (by decide) rfl rfl ?_
    refine c_mred hp hx hT hk0 hk1 (fun r er => ?_)
    refine z_goto (pc := 9) (tgt := 43) dX11_asked_9 rfl ?_
    refine z_iret (pc := 43) dX11_asked_43 rfl ?_
    first | (rw [show asV w.toInt (σ.1 33 p).toInt (σ.1 34 p).toInt = _ from if_pos (by omega), show asB w.toInt (σ.1 33 p).toInt (σ.1 34 p).toInt = _ from if_pos (by omega)] at h; exact h _ er) | (rw [show asV w.toInt (σ.1 33 p).toInt (σ.1 34 p).toInt = _ from (if_neg (by omega)).trans (if_pos (by omega)), show asB w.toInt (σ.1 33 p).toInt (σ.1 34 p).toInt = _ from (if_neg (by omega)).trans (if_pos (by omega))] at h; exact h _ er) | (rw [show asV w.toInt (σ.1 33 p).toInt (σ.1 34 p).toInt = _ from (if_neg (by omega)).trans ((if_neg (by omega)).trans (if_pos (by omega))), show asB w.toInt (σ.1 33 p).toInt (σ.1 34 p).toInt = _ from (if_neg (by omega)).trans ((if_neg (by omega)).trans (if_pos (by omega)))] at h; exact h _ er) | (rw [show asV w.toInt (σ.1 33 p).toInt (σ.1 34 p).toInt = _ from (if_neg (by omega)).trans ((if_neg (by omega)).trans (if_neg (by omega))), show asB w.toInt (σ.1 33 p).toInt (σ.1 34 p).toInt = _ from (if_neg (by omega)).trans ((if_neg (by omega)).trans (if_neg (by omega)))] at h; exact h _ er)
