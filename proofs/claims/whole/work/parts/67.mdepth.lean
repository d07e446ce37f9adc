/-! depth in the model -/
def okVM (σ : Sg) (P : List Nat) (V : Nat → Int × Int) (w : Nat → Int) : Prop := ∀ j i, P[j]? = some i → (σ.2 41 j).toInt = (V i).1 ∧ (σ.2 42 j).toInt = (V i).2 ∧ (σ.1 43 j).toInt = w i
def wY (V : Nat → Int × Int) (w : Nat → Int) (A B C D : Int) (k : Nat) : Int := if ((V k).1 = 0 ∧ (V k).2 = 0) ∨ 0 < A * (V k).1 + B * (V k).2 ∨ (A * (V k).1 + B * (V k).2 = 0 ∧ 0 < C * (V k).1 + D * (V k).2) then w k else 0
theorem wY_zero {V : Nat → Int × Int} {k : Nat} (u : Int × Int) (h : (V k).1 = 0 ∧ (V k).2 = 0) : crV u (V k) = 0 ∧ dtV u (V k) = 0 := by
  unfold crV dtV
  rw [h.1, h.2]
  omega
theorem sY1 (P : List Nat) (V : Nat → Int × Int) (w : Nat → Int) (u : Int × Int) : lsum P (wY V w (-u.2) u.1 u.1 u.2) = lsum P (wH V w) + lsum P (wL V w u) + lsum P (wA V w u) := (lsum_add3 (fun k => by
  have e1 : -u.2 * (V k).1 + u.1 * (V k).2 = crV u (V k) := by unfold crV; grind
  have e2 : u.1 * (V k).1 + u.2 * (V k).2 = dtV u (V k) := rfl
  have h0 := wY_zero (V := V) (k := k) u
  unfold wH wL wA wY
  rw [e1, e2]
  omega)).symm
theorem sY2 (P : List Nat) (V : Nat → Int × Int) (w : Nat → Int) (u : Int × Int) : lsum P (wY V w (-u.2) u.1 (-u.1) (-u.2)) = lsum P (wH V w) + lsum P (wL V w u) + lsum P (wB V w u) := (lsum_add3 (fun k => by
  have e1 : -u.2 * (V k).1 + u.1 * (V k).2 = crV u (V k) := by unfold crV; grind
  have e2 : -u.1 * (V k).1 + -u.2 * (V k).2 = -dtV u (V k) := by unfold dtV; grind
  have h0 := wY_zero (V := V) (k := k) u
  unfold wH wL wB wY
  rw [e1, e2]
  omega)).symm
theorem sY3 (P : List Nat) (V : Nat → Int × Int) (w : Nat → Int) (u : Int × Int) : lsum P (wY V w u.2 (-u.1) u.1 u.2) = lsum P (wH V w) + lsum P (wR V w u) + lsum P (wA V w u) := (lsum_add3 (fun k => by
  have e1 : u.2 * (V k).1 + -u.1 * (V k).2 = -crV u (V k) := by unfold crV; grind
  have e2 : u.1 * (V k).1 + u.2 * (V k).2 = dtV u (V k) := rfl
  have h0 := wY_zero (V := V) (k := k) u
  unfold wH wR wA wY
  rw [e1, e2]
  omega)).symm
theorem sY4 (P : List Nat) (V : Nat → Int × Int) (w : Nat → Int) (u : Int × Int) : lsum P (wY V w u.2 (-u.1) (-u.1) (-u.2)) = lsum P (wH V w) + lsum P (wR V w u) + lsum P (wB V w u) := (lsum_add3 (fun k => by
  have e1 : u.2 * (V k).1 + -u.1 * (V k).2 = -crV u (V k) := by unfold crV; grind
  have e2 : -u.1 * (V k).1 + -u.2 * (V k).2 = -dtV u (V k) := by unfold dtV; grind
  have h0 := wY_zero (V := V) (k := k) u
  unfold wH wR wB wY
  rw [e1, e2]
  omega)).symm
theorem FrQ_X {σ τ : Sg} {lo hi : Nat} (h : eqX lo hi σ τ) (h1 : 41 ≤ lo) (h2 : hi ≤ 48) : FrQ σ τ := ⟨fun o _ h4 => h o (by omega), fun k _ => by rw [(h 1 (by omega)).1], fun k _ => by rw [(h 1 (by omega)).2]⟩

theorem c_beyond_loop {l : Launch} {G : Gx} {d : Nat} {σ : Sg} {Q : Option Value → Sg → Prop} {P : List Nat} {V : Nat → Int × Int} {w : Nat → Int} {A B C D : Int} {xn : Int32} {a b c e : Int64} (hV : okVM σ P V w) (hl : P.length ≤ 40) (hw : ∀ i, 0 ≤ w i ∧ w i ≤ 4) (hb : ∀ i ∈ P, -1000000000 ≤ (V i).1 ∧ (V i).1 ≤ 1000000000 ∧ -1000000000 ≤ (V i).2 ∧ (V i).2 ≤ 1000000000) (hxn : xn.toInt = (P.length : Int)) (ha : a.toInt = A) (hB : b.toInt = B) (hc : c.toInt = C) (hd : e.toInt = D) (bA : -1000000000 ≤ A ∧ A ≤ 1000000000) (bB : -1000000000 ≤ B ∧ B ≤ 1000000000) (bC : -1000000000 ≤ C ∧ C ≤ 1000000000) (bD : -1000000000 ≤ D ∧ D ≤ 1000000000) (h : ∀ r : Int32, r.toInt = lsum P (wY V w A B C D) → Q (some (.int r)) σ) : ∀ (f k : Nat) (xs xk : Int32), xk.toInt = (k : Int) → k ≤ P.length → P.length - k < f → xs.toInt = lsum (P.take k) (wY V w A B C D) → Z l G M_X11_sumBeyond d 6 [some (.ref 1), some (.int xn), some (.long a), none, some (.long b), none, some (.long c), none, some (.long e), none, some (.int xs), some (.int xk), none, none, none, none, none] [] σ Q := by
  intro f
  induction f with
  | zero => intro k xs xk hk hkl hfu hs; omega
  | succ f ih =>
  intro k xs xk hk hkl hfu hs
  have hsr := lsum_rng (l := P.take k) (g := wY V w A B C D) (c := 4) (fun i _ => by have := hw i; unfold wY; split <;> omega)
  rw [List.length_take] at hsr
  refine z_iload (pc := 6) dX11_sumBeyond_6 rfl ?_
  refine z_iload_n (pc := 8) dX11_sumBeyond_8 rfl ?_
  refine zq_icmp_ge (pc := 9) (tgt := 136) dX11_sumBeyond_9 rfl rfl rfl (fun h9 => ?_) (fun h9 => ?_)
  · skip
    refine z_iload (pc := 136) dX11_sumBeyond_136 rfl ?_
    refine z_iret (pc := 138) dX11_sumBeyond_138 rfl ?_
    rw [take_all (by omega)] at hs
    exact h _ hs
  · skip
    obtain ⟨r, hkr⟩ : ∃ r, P[k]? = some r := ⟨_, List.getElem?_eq_getElem (by omega)⟩
    have vk := hV k r hkr
    have bk := hb r (List.mem_of_getElem? hkr)
    have hwr := hw r
    have m1 := mulb (a := a.toInt) (b := (σ.2 41 k).toInt) (p := 1000000000) (q := 1000000000) (by omega) (by omega) (by omega) (by omega)
    have m2 := mulb (a := b.toInt) (b := (σ.2 42 k).toInt) (p := 1000000000) (q := 1000000000) (by omega) (by omega) (by omega) (by omega)
    have m3 := mulb (a := c.toInt) (b := (σ.2 41 k).toInt) (p := 1000000000) (q := 1000000000) (by omega) (by omega) (by omega) (by omega)
    have m4 := mulb (a := e.toInt) (b := (σ.2 42 k).toInt) (p := 1000000000) (q := 1000000000) (by omega) (by omega) (by omega) (by omega)
    refine z_lload_n (pc := 12) dX11_sumBeyond_12 rfl ?_
    refine z_aload_n (pc := 13) dX11_sumBeyond_13 rfl ?_
    refine z_getR (pc := 14) (t := 41) dX11_sumBeyond_14 fk_X11_51 rfl (by decide) (by decide) (by decide) rfl ?_
    refine z_iload (pc := 17) dX11_sumBeyond_17 rfl ?_
    refine z_laldN (pc := 19) k dX11_sumBeyond_19 rfl (by decide) hk (by show _ < 40; omega) ?_
    refine z_lmulT (pc := 20) dX11_sumBeyond_20 rfl rfl (by omega) (by omega) (fun v20 e20 => ?_)
    refine z_lload (pc := 21) dX11_sumBeyond_21 rfl ?_
    refine z_aload_n (pc := 23) dX11_sumBeyond_23 rfl ?_
    refine z_getR (pc := 24) (t := 42) dX11_sumBeyond_24 fk_X11_54 rfl (by decide) (by decide) (by decide) rfl ?_
    refine z_iload (pc := 27) dX11_sumBeyond_27 rfl ?_
    refine z_laldN (pc := 29) k dX11_sumBeyond_29 rfl (by decide) hk (by show _ < 40; omega) ?_
    refine z_lmulT (pc := 30) dX11_sumBeyond_30 rfl rfl (by omega) (by omega) (fun v30 e30 => ?_)
    refine z_laddT (pc := 31) dX11_sumBeyond_31 rfl rfl (by omega) (by omega) (fun v31 e31 => ?_)
    refine z_lstore (pc := 32) dX11_sumBeyond_32 rfl rfl (by dsimp only [setI, setL, List.set]) ?_
    refine z_lload (pc := 34) dX11_sumBeyond_34 rfl ?_
    refine z_aload_n (pc := 36) dX11_sumBeyond_36 rfl ?_
    refine z_getR (pc := 37) (t := 41) dX11_sumBeyond_37 fk_X11_51 rfl (by decide) (by decide) (by decide) rfl ?_
    refine z_iload (pc := 40) dX11_sumBeyond_40 rfl ?_
    refine z_laldN (pc := 42) k dX11_sumBeyond_42 rfl (by decide) hk (by show _ < 40; omega) ?_
    refine z_lmulT (pc := 43) dX11_sumBeyond_43 rfl rfl (by omega) (by omega) (fun v43 e43 => ?_)
    refine z_lload (pc := 44) dX11_sumBeyond_44 rfl ?_
    refine z_aload_n (pc := 46) dX11_sumBeyond_46 rfl ?_
    refine z_getR (pc := 47) (t := 42) dX11_sumBeyond_47 fk_X11_54 rfl (by decide) (by decide) (by decide) rfl ?_
    refine z_iload (pc := 50) dX11_sumBeyond_50 rfl ?_
    refine z_laldN (pc := 52) k dX11_sumBeyond_52 rfl (by decide) hk (by show _ < 40; omega) ?_
    refine z_lmulT (pc := 53) dX11_sumBeyond_53 rfl rfl (by omega) (by omega) (fun v53 e53 => ?_)
    refine z_laddT (pc := 54) dX11_sumBeyond_54 rfl rfl (by omega) (by omega) (fun v54 e54 => ?_)
    refine z_lstore (pc := 55) dX11_sumBeyond_55 rfl rfl (by dsimp only [setI, setL, List.set]) ?_
    refine z_aload_n (pc := 57) dX11_sumBeyond_57 rfl ?_
    refine z_getR (pc := 58) (t := 41) dX11_sumBeyond_58 fk_X11_51 rfl (by decide) (by decide) (by decide) rfl ?_
    refine z_iload (pc := 61) dX11_sumBeyond_61 rfl ?_
    refine z_laldN (pc := 63) k dX11_sumBeyond_63 rfl (by decide) hk (by show _ < 40; omega) ?_
    refine z_lconst (pc := 64) (v := 0) dX11_sumBeyond_64 (by decide) ?_
    refine zq_lc_ne (pc := 65) (cy := 0) (tgt := 85) dX11_sumBeyond_65 dX11_sumBeyond_66 rfl rfl (by decide) (fun h65 => ?_) (fun h65 => ?_)
    · skip
      refine z_iconst (pc := 85) (v := 0) dX11_sumBeyond_85 (by decide) ?_
      refine z_istore (pc := 86) dX11_sumBeyond_86 rfl rfl (by dsimp only [setI, setL, List.set]) ?_
      refine z_iload (pc := 88) dX11_sumBeyond_88 rfl ?_
      refine z_iload (pc := 90) dX11_sumBeyond_90 rfl ?_
      refine z_if_ne (pc := 92) (tgt := 116) dX11_sumBeyond_92 rfl (fun hc => absurd hc (by decide)) (fun _ => ?_)
      refine z_lload (pc := 95) dX11_sumBeyond_95 rfl ?_
      refine z_lconst (pc := 97) (v := 0) dX11_sumBeyond_97 (by decide) ?_
      refine zq_lc_gt (pc := 98) (cy := 0) (tgt := 116) dX11_sumBeyond_98 dX11_sumBeyond_99 rfl rfl (by decide) (fun h98 => ?_) (fun h98 => ?_)
      · skip
        refine z_aload_n (pc := 116) dX11_sumBeyond_116 rfl ?_
        refine z_getR (pc := 117) (t := 43) dX11_sumBeyond_117 fk_X11_57 rfl (by decide) (by decide) (by decide) rfl ?_
        refine z_iload (pc := 120) dX11_sumBeyond_120 rfl ?_
        refine z_ialdN (pc := 122) k dX11_sumBeyond_122 rfl (by decide) hk (by show _ < 40; omega) ?_
        refine z_goto (pc := 123) (tgt := 127) dX11_sumBeyond_123 rfl ?_
        refine z_iaddT (pc := 127) dX11_sumBeyond_127 rfl rfl (by omega) (by omega) (fun v127 e127 => ?_)
        refine z_istore (pc := 128) dX11_sumBeyond_128 rfl rfl (by dsimp only [setI, setL, List.set]) ?_
        refine z_iincT (pc := 130) dX11_sumBeyond_130 rfl rfl (by decide) (by decide) (by omega) (by omega) rfl rfl (fun v => by dsimp only [setI, setL, List.set]) (fun v130 e130 => ?_)
        refine z_goto (pc := 133) (tgt := 6) dX11_sumBeyond_133 rfl ?_
        refine z_sub (L' := [some _, some _, some _, none, some _, none, some _, none, some _, none, some _, some _, none, none, none, none, none]) ⟨rfl, rfl, rfl, rfl, rfl, rfl, rfl, rfl, trivial⟩ ?_
        have ev : v31.toInt = A * (V r).1 + B * (V r).2 := by rw [e31, e20, e30, ha, hB, vk.1, vk.2.1]
        have et : v54.toInt = C * (V r).1 + D * (V r).2 := by rw [e54, e43, e53, hc, hd, vk.1, vk.2.1]
        have dy : wY V w A B C D r = (if ((V r).1 = 0 ∧ (V r).2 = 0) ∨ 0 < A * (V r).1 + B * (V r).2 ∨ (A * (V r).1 + B * (V r).2 = 0 ∧ 0 < C * (V r).1 + D * (V r).2) then w r else 0) := rfl
        rw [← ev, ← et, ← vk.1, ← vk.2.1] at dy
        first
        | (rw [if_pos (by omega)] at dy; exact ih (k + 1) v127 v130 (by omega) (by omega) (by omega) (by rw [lsum_take hkr]; omega))
        | (rw [if_neg (by omega)] at dy; exact ih (k + 1) v127 v130 (by omega) (by omega) (by omega) (by rw [lsum_take hkr]; omega))
      · skip
        refine z_lload (pc := 102) dX11_sumBeyond_102 rfl ?_
        refine z_lconst (pc := 104) (v := 0) dX11_sumBeyond_104 (by decide) ?_
        refine zq_lc_ne (pc := 105) (cy := 0) (tgt := 126) dX11_sumBeyond_105 dX11_sumBeyond_106 rfl rfl (by decide) (fun h105 => ?_) (fun h105 => ?_)
        · skip
          refine z_iconst (pc := 126) (v := 0) dX11_sumBeyond_126 (by decide) ?_
          refine z_iaddT (pc := 127) (cy := 0) dX11_sumBeyond_127 rfl (by decide) (by omega) (by omega) (fun v127 e127 => ?_)
          refine z_istore (pc := 128) dX11_sumBeyond_128 rfl rfl (by dsimp only [setI, setL, List.set]) ?_
          refine z_iincT (pc := 130) dX11_sumBeyond_130 rfl rfl (by decide) (by decide) (by omega) (by omega) rfl rfl (fun v => by dsimp only [setI, setL, List.set]) (fun v130 e130 => ?_)
          refine z_goto (pc := 133) (tgt := 6) dX11_sumBeyond_133 rfl ?_
          refine z_sub (L' := [some _, some _, some _, none, some _, none, some _, none, some _, none, some _, some _, none, none, none, none, none]) ⟨rfl, rfl, rfl, rfl, rfl, rfl, rfl, rfl, trivial⟩ ?_
          have ev : v31.toInt = A * (V r).1 + B * (V r).2 := by rw [e31, e20, e30, ha, hB, vk.1, vk.2.1]
          have et : v54.toInt = C * (V r).1 + D * (V r).2 := by rw [e54, e43, e53, hc, hd, vk.1, vk.2.1]
          have dy : wY V w A B C D r = (if ((V r).1 = 0 ∧ (V r).2 = 0) ∨ 0 < A * (V r).1 + B * (V r).2 ∨ (A * (V r).1 + B * (V r).2 = 0 ∧ 0 < C * (V r).1 + D * (V r).2) then w r else 0) := rfl
          rw [← ev, ← et, ← vk.1, ← vk.2.1] at dy
          first
          | (rw [if_pos (by omega)] at dy; exact ih (k + 1) v127 v130 (by omega) (by omega) (by omega) (by rw [lsum_take hkr]; omega))
          | (rw [if_neg (by omega)] at dy; exact ih (k + 1) v127 v130 (by omega) (by omega) (by omega) (by rw [lsum_take hkr]; omega))
        · skip
          refine z_lload (pc := 109) dX11_sumBeyond_109 rfl ?_
          refine z_lconst (pc := 111) (v := 0) dX11_sumBeyond_111 (by decide) ?_
          refine zq_lc_le (pc := 112) (cy := 0) (tgt := 126) dX11_sumBeyond_112 dX11_sumBeyond_113 rfl rfl (by decide) (fun h112 => ?_) (fun h112 => ?_)
          · skip
            refine z_iconst (pc := 126) (v := 0) dX11_sumBeyond_126 (by decide) ?_
            refine z_iaddT (pc := 127) (cy := 0) dX11_sumBeyond_127 rfl (by decide) (by omega) (by omega) (fun v127 e127 => ?_)
            refine z_istore (pc := 128) dX11_sumBeyond_128 rfl rfl (by dsimp only [setI, setL, List.set]) ?_
            refine z_iincT (pc := 130) dX11_sumBeyond_130 rfl rfl (by decide) (by decide) (by omega) (by omega) rfl rfl (fun v => by dsimp only [setI, setL, List.set]) (fun v130 e130 => ?_)
            refine z_goto (pc := 133) (tgt := 6) dX11_sumBeyond_133 rfl ?_
            refine z_sub (L' := [some _, some _, some _, none, some _, none, some _, none, some _, none, some _, some _, none, none, none, none, none]) ⟨rfl, rfl, rfl, rfl, rfl, rfl, rfl, rfl, trivial⟩ ?_
            have ev : v31.toInt = A * (V r).1 + B * (V r).2 := by rw [e31, e20, e30, ha, hB, vk.1, vk.2.1]
            have et : v54.toInt = C * (V r).1 + D * (V r).2 := by rw [e54, e43, e53, hc, hd, vk.1, vk.2.1]
            have dy : wY V w A B C D r = (if ((V r).1 = 0 ∧ (V r).2 = 0) ∨ 0 < A * (V r).1 + B * (V r).2 ∨ (A * (V r).1 + B * (V r).2 = 0 ∧ 0 < C * (V r).1 + D * (V r).2) then w r else 0) := rfl
            rw [← ev, ← et, ← vk.1, ← vk.2.1] at dy
            first
            | (rw [if_pos (by omega)] at dy; exact ih (k + 1) v127 v130 (by omega) (by omega) (by omega) (by rw [lsum_take hkr]; omega))
            | (rw [if_neg (by omega)] at dy; exact ih (k + 1) v127 v130 (by omega) (by omega) (by omega) (by rw [lsum_take hkr]; omega))
          · skip
            refine z_aload_n (pc := 116) dX11_sumBeyond_116 rfl ?_
            refine z_getR (pc := 117) (t := 43) dX11_sumBeyond_117 fk_X11_57 rfl (by decide) (by decide) (by decide) rfl ?_
            refine z_iload (pc := 120) dX11_sumBeyond_120 rfl ?_
            refine z_ialdN (pc := 122) k dX11_sumBeyond_122 rfl (by decide) hk (by show _ < 40; omega) ?_
            refine z_goto (pc := 123) (tgt := 127) dX11_sumBeyond_123 rfl ?_
            refine z_iaddT (pc := 127) dX11_sumBeyond_127 rfl rfl (by omega) (by omega) (fun v127 e127 => ?_)
            refine z_istore (pc := 128) dX11_sumBeyond_128 rfl rfl (by dsimp only [setI, setL, List.set]) ?_
            refine z_iincT (pc := 130) dX11_sumBeyond_130 rfl rfl (by decide) (by decide) (by omega) (by omega) rfl rfl (fun v => by dsimp only [setI, setL, List.set]) (fun v130 e130 => ?_)
            refine z_goto (pc := 133) (tgt := 6) dX11_sumBeyond_133 rfl ?_
            refine z_sub (L' := [some _, some _, some _, none, some _, none, some _, none, some _, none, some _, some _, none, none, none, none, none]) ⟨rfl, rfl, rfl, rfl, rfl, rfl, rfl, rfl, trivial⟩ ?_
            have ev : v31.toInt = A * (V r).1 + B * (V r).2 := by rw [e31, e20, e30, ha, hB, vk.1, vk.2.1]
            have et : v54.toInt = C * (V r).1 + D * (V r).2 := by rw [e54, e43, e53, hc, hd, vk.1, vk.2.1]
            have dy : wY V w A B C D r = (if ((V r).1 = 0 ∧ (V r).2 = 0) ∨ 0 < A * (V r).1 + B * (V r).2 ∨ (A * (V r).1 + B * (V r).2 = 0 ∧ 0 < C * (V r).1 + D * (V r).2) then w r else 0) := rfl
            rw [← ev, ← et, ← vk.1, ← vk.2.1] at dy
            first
            | (rw [if_pos (by omega)] at dy; exact ih (k + 1) v127 v130 (by omega) (by omega) (by omega) (by rw [lsum_take hkr]; omega))
            | (rw [if_neg (by omega)] at dy; exact ih (k + 1) v127 v130 (by omega) (by omega) (by omega) (by rw [lsum_take hkr]; omega))
    · skip
      refine z_aload_n (pc := 69) dX11_sumBeyond_69 rfl ?_
      refine z_getR (pc := 70) (t := 42) dX11_sumBeyond_70 fk_X11_54 rfl (by decide) (by decide) (by decide) rfl ?_
      refine z_iload (pc := 73) dX11_sumBeyond_73 rfl ?_
      refine z_laldN (pc := 75) k dX11_sumBeyond_75 rfl (by decide) hk (by show _ < 40; omega) ?_
      refine z_lconst (pc := 76) (v := 0) dX11_sumBeyond_76 (by decide) ?_
      refine zq_lc_ne (pc := 77) (cy := 0) (tgt := 85) dX11_sumBeyond_77 dX11_sumBeyond_78 rfl rfl (by decide) (fun h77 => ?_) (fun h77 => ?_)
      · skip
        refine z_iconst (pc := 85) (v := 0) dX11_sumBeyond_85 (by decide) ?_
        refine z_istore (pc := 86) dX11_sumBeyond_86 rfl rfl (by dsimp only [setI, setL, List.set]) ?_
        refine z_iload (pc := 88) dX11_sumBeyond_88 rfl ?_
        refine z_iload (pc := 90) dX11_sumBeyond_90 rfl ?_
        refine z_if_ne (pc := 92) (tgt := 116) dX11_sumBeyond_92 rfl (fun hc => absurd hc (by decide)) (fun _ => ?_)
        refine z_lload (pc := 95) dX11_sumBeyond_95 rfl ?_
        refine z_lconst (pc := 97) (v := 0) dX11_sumBeyond_97 (by decide) ?_
        refine zq_lc_gt (pc := 98) (cy := 0) (tgt := 116) dX11_sumBeyond_98 dX11_sumBeyond_99 rfl rfl (by decide) (fun h98 => ?_) (fun h98 => ?_)
        · skip
          refine z_aload_n (pc := 116) dX11_sumBeyond_116 rfl ?_
          refine z_getR (pc := 117) (t := 43) dX11_sumBeyond_117 fk_X11_57 rfl (by decide) (by decide) (by decide) rfl ?_
          refine z_iload (pc := 120) dX11_sumBeyond_120 rfl ?_
          refine z_ialdN (pc := 122) k dX11_sumBeyond_122 rfl (by decide) hk (by show _ < 40; omega) ?_
          refine z_goto (pc := 123) (tgt := 127) dX11_sumBeyond_123 rfl ?_
          refine z_iaddT (pc := 127) dX11_sumBeyond_127 rfl rfl (by omega) (by omega) (fun v127 e127 => ?_)
          refine z_istore (pc := 128) dX11_sumBeyond_128 rfl rfl (by dsimp only [setI, setL, List.set]) ?_
          refine z_iincT (pc := 130) dX11_sumBeyond_130 rfl rfl (by decide) (by decide) (by omega) (by omega) rfl rfl (fun v => by dsimp only [setI, setL, List.set]) (fun v130 e130 => ?_)
          refine z_goto (pc := 133) (tgt := 6) dX11_sumBeyond_133 rfl ?_
          refine z_sub (L' := [some _, some _, some _, none, some _, none, some _, none, some _, none, some _, some _, none, none, none, none, none]) ⟨rfl, rfl, rfl, rfl, rfl, rfl, rfl, rfl, trivial⟩ ?_
          have ev : v31.toInt = A * (V r).1 + B * (V r).2 := by rw [e31, e20, e30, ha, hB, vk.1, vk.2.1]
          have et : v54.toInt = C * (V r).1 + D * (V r).2 := by rw [e54, e43, e53, hc, hd, vk.1, vk.2.1]
          have dy : wY V w A B C D r = (if ((V r).1 = 0 ∧ (V r).2 = 0) ∨ 0 < A * (V r).1 + B * (V r).2 ∨ (A * (V r).1 + B * (V r).2 = 0 ∧ 0 < C * (V r).1 + D * (V r).2) then w r else 0) := rfl
          rw [← ev, ← et, ← vk.1, ← vk.2.1] at dy
          first
          | (rw [if_pos (by omega)] at dy; exact ih (k + 1) v127 v130 (by omega) (by omega) (by omega) (by rw [lsum_take hkr]; omega))
          | (rw [if_neg (by omega)] at dy; exact ih (k + 1) v127 v130 (by omega) (by omega) (by omega) (by rw [lsum_take hkr]; omega))
        · skip
          refine z_lload (pc := 102) dX11_sumBeyond_102 rfl ?_
          refine z_lconst (pc := 104) (v := 0) dX11_sumBeyond_104 (by decide) ?_
          refine zq_lc_ne (pc := 105) (cy := 0) (tgt := 126) dX11_sumBeyond_105 dX11_sumBeyond_106 rfl rfl (by decide) (fun h105 => ?_) (fun h105 => ?_)
          · skip
            refine z_iconst (pc := 126) (v := 0) dX11_sumBeyond_126 (by decide) ?_
            refine z_iaddT (pc := 127) (cy := 0) dX11_sumBeyond_127 rfl (by decide) (by omega) (by omega) (fun v127 e127 => ?_)
            refine z_istore (pc := 128) dX11_sumBeyond_128 rfl rfl (by dsimp only [setI, setL, List.set]) ?_
            refine z_iincT (pc := 130) dX11_sumBeyond_130 rfl rfl (by decide) (by decide) (by omega) (by omega) rfl rfl (fun v => by dsimp only [setI, setL, List.set]) (fun v130 e130 => ?_)
            refine z_goto (pc := 133) (tgt := 6) dX11_sumBeyond_133 rfl ?_
            refine z_sub (L' := [some _, some _, some _, none, some _, none, some _, none, some _, none, some _, some _, none, none, none, none, none]) ⟨rfl, rfl, rfl, rfl, rfl, rfl, rfl, rfl, trivial⟩ ?_
            have ev : v31.toInt = A * (V r).1 + B * (V r).2 := by rw [e31, e20, e30, ha, hB, vk.1, vk.2.1]
            have et : v54.toInt = C * (V r).1 + D * (V r).2 := by rw [e54, e43, e53, hc, hd, vk.1, vk.2.1]
            have dy : wY V w A B C D r = (if ((V r).1 = 0 ∧ (V r).2 = 0) ∨ 0 < A * (V r).1 + B * (V r).2 ∨ (A * (V r).1 + B * (V r).2 = 0 ∧ 0 < C * (V r).1 + D * (V r).2) then w r else 0) := rfl
            rw [← ev, ← et, ← vk.1, ← vk.2.1] at dy
            first
            | (rw [if_pos (by omega)] at dy; exact ih (k + 1) v127 v130 (by omega) (by omega) (by omega) (by rw [lsum_take hkr]; omega))
            | (rw [if_neg (by omega)] at dy; exact ih (k + 1) v127 v130 (by omega) (by omega) (by omega) (by rw [lsum_take hkr]; omega))
          · skip
            refine z_lload (pc := 109) dX11_sumBeyond_109 rfl ?_
            refine z_lconst (pc := 111) (v := 0) dX11_sumBeyond_111 (by decide) ?_
            refine zq_lc_le (pc := 112) (cy := 0) (tgt := 126) dX11_sumBeyond_112 dX11_sumBeyond_113 rfl rfl (by decide) (fun h112 => ?_) (fun h112 => ?_)
            · skip
              refine z_iconst (pc := 126) (v := 0) dX11_sumBeyond_126 (by decide) ?_
              refine z_iaddT (pc := 127) (cy := 0) dX11_sumBeyond_127 rfl (by decide) (by omega) (by omega) (fun v127 e127 => ?_)
              refine z_istore (pc := 128) dX11_sumBeyond_128 rfl rfl (by dsimp only [setI, setL, List.set]) ?_
              refine z_iincT (pc := 130) dX11_sumBeyond_130 rfl rfl (by decide) (by decide) (by omega) (by omega) rfl rfl (fun v => by dsimp only [setI, setL, List.set]) (fun v130 e130 => ?_)
              refine z_goto (pc := 133) (tgt := 6) dX11_sumBeyond_133 rfl ?_
              refine z_sub (L' := [some _, some _, some _, none, some _, none, some _, none, some _, none, some _, some _, none, none, none, none, none]) ⟨rfl, rfl, rfl, rfl, rfl, rfl, rfl, rfl, trivial⟩ ?_
              have ev : v31.toInt = A * (V r).1 + B * (V r).2 := by rw [e31, e20, e30, ha, hB, vk.1, vk.2.1]
              have et : v54.toInt = C * (V r).1 + D * (V r).2 := by rw [e54, e43, e53, hc, hd, vk.1, vk.2.1]
              have dy : wY V w A B C D r = (if ((V r).1 = 0 ∧ (V r).2 = 0) ∨ 0 < A * (V r).1 + B * (V r).2 ∨ (A * (V r).1 + B * (V r).2 = 0 ∧ 0 < C * (V r).1 + D * (V r).2) then w r else 0) := rfl
              rw [← ev, ← et, ← vk.1, ← vk.2.1] at dy
              first
              | (rw [if_pos (by omega)] at dy; exact ih (k + 1) v127 v130 (by omega) (by omega) (by omega) (by rw [lsum_take hkr]; omega))
              | (rw [if_neg (by omega)] at dy; exact ih (k + 1) v127 v130 (by omega) (by omega) (by omega) (by rw [lsum_take hkr]; omega))
            · skip
              refine z_aload_n (pc := 116) dX11_sumBeyond_116 rfl ?_
              refine z_getR (pc := 117) (t := 43) dX11_sumBeyond_117 fk_X11_57 rfl (by decide) (by decide) (by decide) rfl ?_
              refine z_iload (pc := 120) dX11_sumBeyond_120 rfl ?_
              refine z_ialdN (pc := 122) k dX11_sumBeyond_122 rfl (by decide) hk (by show _ < 40; omega) ?_
              refine z_goto (pc := 123) (tgt := 127) dX11_sumBeyond_123 rfl ?_
              refine z_iaddT (pc := 127) dX11_sumBeyond_127 rfl rfl (by omega) (by omega) (fun v127 e127 => ?_)
              refine z_istore (pc := 128) dX11_sumBeyond_128 rfl rfl (by dsimp only [setI, setL, List.set]) ?_
              refine z_iincT (pc := 130) dX11_sumBeyond_130 rfl rfl (by decide) (by decide) (by omega) (by omega) rfl rfl (fun v => by dsimp only [setI, setL, List.set]) (fun v130 e130 => ?_)
              refine z_goto (pc := 133) (tgt := 6) dX11_sumBeyond_133 rfl ?_
              refine z_sub (L' := [some _, some _, some _, none, some _, none, some _, none, some _, none, some _, some _, none, none, none, none, none]) ⟨rfl, rfl, rfl, rfl, rfl, rfl, rfl, rfl, trivial⟩ ?_
              have ev : v31.toInt = A * (V r).1 + B * (V r).2 := by rw [e31, e20, e30, ha, hB, vk.1, vk.2.1]
              have et : v54.toInt = C * (V r).1 + D * (V r).2 := by rw [e54, e43, e53, hc, hd, vk.1, vk.2.1]
              have dy : wY V w A B C D r = (if ((V r).1 = 0 ∧ (V r).2 = 0) ∨ 0 < A * (V r).1 + B * (V r).2 ∨ (A * (V r).1 + B * (V r).2 = 0 ∧ 0 < C * (V r).1 + D * (V r).2) then w r else 0) := rfl
              rw [← ev, ← et, ← vk.1, ← vk.2.1] at dy
              first
              | (rw [if_pos (by omega)] at dy; exact ih (k + 1) v127 v130 (by omega) (by omega) (by omega) (by rw [lsum_take hkr]; omega))
              | (rw [if_neg (by omega)] at dy; exact ih (k + 1) v127 v130 (by omega) (by omega) (by omega) (by rw [lsum_take hkr]; omega))
      · skip
        refine z_iconst (pc := 81) (v := 1) dX11_sumBeyond_81 (by decide) ?_
        refine z_goto (pc := 82) (tgt := 86) dX11_sumBeyond_82 rfl ?_
        refine z_istore (pc := 86) dX11_sumBeyond_86 rfl rfl (by dsimp only [setI, setL, List.set]) ?_
        refine z_iload (pc := 88) dX11_sumBeyond_88 rfl ?_
        refine z_iload (pc := 90) dX11_sumBeyond_90 rfl ?_
        refine z_if_ne (pc := 92) (tgt := 116) dX11_sumBeyond_92 rfl (fun _ => ?_) (fun hc => absurd hc (by decide))
        refine z_aload_n (pc := 116) dX11_sumBeyond_116 rfl ?_
        refine z_getR (pc := 117) (t := 43) dX11_sumBeyond_117 fk_X11_57 rfl (by decide) (by decide) (by decide) rfl ?_
        refine z_iload (pc := 120) dX11_sumBeyond_120 rfl ?_
        refine z_ialdN (pc := 122) k dX11_sumBeyond_122 rfl (by decide) hk (by show _ < 40; omega) ?_
        refine z_goto (pc := 123) (tgt := 127) dX11_sumBeyond_123 rfl ?_
        refine z_iaddT (pc := 127) dX11_sumBeyond_127 rfl rfl (by omega) (by omega) (fun v127 e127 => ?_)
        refine z_istore (pc := 128) dX11_sumBeyond_128 rfl rfl (by dsimp only [setI, setL, List.set]) ?_
        refine z_iincT (pc := 130) dX11_sumBeyond_130 rfl rfl (by decide) (by decide) (by omega) (by omega) rfl rfl (fun v => by dsimp only [setI, setL, List.set]) (fun v130 e130 => ?_)
        refine z_goto (pc := 133) (tgt := 6) dX11_sumBeyond_133 rfl ?_
        refine z_sub (L' := [some _, some _, some _, none, some _, none, some _, none, some _, none, some _, some _, none, none, none, none, none]) ⟨rfl, rfl, rfl, rfl, rfl, rfl, rfl, rfl, trivial⟩ ?_
        have ev : v31.toInt = A * (V r).1 + B * (V r).2 := by rw [e31, e20, e30, ha, hB, vk.1, vk.2.1]
        have et : v54.toInt = C * (V r).1 + D * (V r).2 := by rw [e54, e43, e53, hc, hd, vk.1, vk.2.1]
        have dy : wY V w A B C D r = (if ((V r).1 = 0 ∧ (V r).2 = 0) ∨ 0 < A * (V r).1 + B * (V r).2 ∨ (A * (V r).1 + B * (V r).2 = 0 ∧ 0 < C * (V r).1 + D * (V r).2) then w r else 0) := rfl
        rw [← ev, ← et, ← vk.1, ← vk.2.1] at dy
        first
        | (rw [if_pos (by omega)] at dy; exact ih (k + 1) v127 v130 (by omega) (by omega) (by omega) (by rw [lsum_take hkr]; omega))
        | (rw [if_neg (by omega)] at dy; exact ih (k + 1) v127 v130 (by omega) (by omega) (by omega) (by rw [lsum_take hkr]; omega))

theorem c_X11_sumBeyond {l : Launch} {G : Gx} {d : Nat} {σ : Sg} {Q : Option Value → Sg → Prop} {P : List Nat} {V : Nat → Int × Int} {w : Nat → Int} {A B C D : Int} {xn : Int32} {a b c e : Int64} (hV : okVM σ P V w) (hl : P.length ≤ 40) (hw : ∀ i, 0 ≤ w i ∧ w i ≤ 4) (hb : ∀ i ∈ P, -1000000000 ≤ (V i).1 ∧ (V i).1 ≤ 1000000000 ∧ -1000000000 ≤ (V i).2 ∧ (V i).2 ≤ 1000000000) (hxn : xn.toInt = (P.length : Int)) (ha : a.toInt = A) (hB : b.toInt = B) (hc : c.toInt = C) (hd : e.toInt = D) (bA : -1000000000 ≤ A ∧ A ≤ 1000000000) (bB : -1000000000 ≤ B ∧ B ≤ 1000000000) (bC : -1000000000 ≤ C ∧ C ≤ 1000000000) (bD : -1000000000 ≤ D ∧ D ≤ 1000000000) (h : ∀ r : Int32, r.toInt = lsum P (wY V w A B C D) → Q (some (.int r)) σ)  : Z l G M_X11_sumBeyond (d) 0 [some (.ref 1), some (.int xn), some (.long a), none, some (.long b), none, some (.long c), none, some (.long e), none] [] σ Q := by
  refine z_sub (L' := [some (.ref 1), some (.int xn), some (.long a), none, some (.long b), none, some (.long c), none, some (.long e), none, none, none, none, none, none, none, none]) ⟨rfl, rfl, rfl, rfl, rfl, rfl, trivial⟩ ?_
  refine z_iconst (pc := 0) (v := 0) dX11_sumBeyond_0 (by decide) ?_
  refine z_istore (pc := 1) dX11_sumBeyond_1 rfl rfl (by dsimp only [setI, setL, List.set]) ?_
  refine z_iconst (pc := 3) (v := 0) dX11_sumBeyond_3 (by decide) ?_
  refine z_istore (pc := 4) dX11_sumBeyond_4 rfl rfl (by dsimp only [setI, setL, List.set]) ?_
  exact c_beyond_loop hV hl hw hb hxn ha hB hc hd bA bB bC bD h (P.length + 1) 0 0 0 (by decide) (by omega) (by omega) rfl

theorem c_mdep_0 {l : Launch} {G : Gx} {d : Nat} {σ : Sg} {Q : Option Value → Sg → Prop} {n k i : Nat} {pt : Nat → Pt} {V : Nat → Int × Int} {px py pd : Int64} {xn xa xk : Int32} {m : Int} {x9 : Int32} (hV : okVM σ (prs n pt) V (w2 pt)) (hn : n ≤ 40) (hb : bdV n pt V) (hxn : xn.toInt = ((prs n pt).length : Int)) (hi : (prs n pt)[k]? = some i) (hk : xk.toInt = (k : Int)) (h9 : x9.toInt = m) (hnext : ∀ x9 : Int32, x9.toInt = min m (lsum (prs n pt) (wY V (w2 pt) (-(V i).2) (V i).1 (V i).1 (V i).2)) → Z l G M_X11_depthOf (d + 1) 143 [some (.ref 1), some (.long px), none, some (.long py), none, some (.long pd), none, some (.int xn), some (.int xa), some (.int x9), some (.int xk), some (.int 1), none, none, none, none, none] [] σ Q) : Z l G M_X11_depthOf (d + 1) 143 [some (.ref 1), some (.long px), none, some (.long py), none, some (.long pd), none, some (.int xn), some (.int xa), some (.int x9), some (.int xk), some (.int 0), none, none, none, none, none] [] σ Q := by
  have hkl := (List.getElem?_eq_some_iff.mp hi).1
  have hpl := prs_len n pt
  have vi := hV k i hi
  have bi := hb i (List.mem_of_getElem? hi)
  have h2n : ¬ (2 : Int32) = 0 := by decide
  refine z_iload (pc := 143) dX11_depthOf_143 rfl ?_
  refine z_iconst (pc := 145) (v := 4) dX11_depthOf_145 (by decide) ?_
  refine z_icmp_ge (pc := 146) (tgt := 251) dX11_depthOf_146 rfl (fun hc => absurd hc (by decide)) (fun _ => ?_)
  refine z_iload (pc := 149) dX11_depthOf_149 rfl ?_
  refine z_iconst (pc := 151) (v := 2) dX11_depthOf_151 (by decide) ?_
  refine z_icmp_ge (pc := 152) (tgt := 159) dX11_depthOf_152 rfl (fun hc => absurd hc (by decide)) (fun _ => ?_)
  refine z_lconst (pc := 155) (v := 1) dX11_depthOf_155 (by decide) ?_
  refine z_goto (pc := 156) (tgt := 162) dX11_depthOf_156 rfl ?_
  refine z_lstore (pc := 162) dX11_depthOf_162 rfl rfl (by dsimp only [setI, setL, List.set]) ?_
  refine z_iload (pc := 164) dX11_depthOf_164 rfl ?_
  refine z_iconst (pc := 166) (v := 2) dX11_depthOf_166 (by decide) ?_
  refine z_irem (pc := 167) dX11_depthOf_167 (by assumption) ?_
  refine zq_if_ne (pc := 168) (tgt := 175) dX11_depthOf_168 rfl rfl (fun h168 => ?_) (fun h168 => ?_)
  · skip
    exact absurd h168 (by decide)
  · skip
    skip
    refine z_lconst (pc := 171) (v := 1) dX11_depthOf_171 (by decide) ?_
    refine z_goto (pc := 172) (tgt := 178) dX11_depthOf_172 rfl ?_
    refine z_lstore (pc := 178) dX11_depthOf_178 rfl rfl (by dsimp only [setI, setL, List.set]) ?_
    refine z_aload_n (pc := 180) dX11_depthOf_180 rfl ?_
    refine z_iload (pc := 181) dX11_depthOf_181 rfl ?_
    refine z_lload (pc := 183) dX11_depthOf_183 rfl ?_
    refine z_lnegT (pc := 185) (cx := 1) dX11_depthOf_185 (by decide) (by decide) (by decide) (fun v185 e185 => ?_)
    refine z_aload_n (pc := 186) dX11_depthOf_186 rfl ?_
    refine z_getR (pc := 187) (t := 42) dX11_depthOf_187 fk_X11_54 rfl (by decide) (by decide) (by decide) rfl ?_
    refine z_iload (pc := 190) dX11_depthOf_190 rfl ?_
    refine z_laldN (pc := 192) k dX11_depthOf_192 rfl (by decide) hk (by show _ < 40; omega) ?_
    refine z_lmulT (pc := 193) dX11_depthOf_193 rfl rfl (by rw [e185]; omega) (by rw [e185]; omega) (fun v193 e193 => ?_)
    rw [e185] at e193
    refine z_lload (pc := 194) dX11_depthOf_194 rfl ?_
    refine z_aload_n (pc := 196) dX11_depthOf_196 rfl ?_
    refine z_getR (pc := 197) (t := 41) dX11_depthOf_197 fk_X11_51 rfl (by decide) (by decide) (by decide) rfl ?_
    refine z_iload (pc := 200) dX11_depthOf_200 rfl ?_
    refine z_laldN (pc := 202) k dX11_depthOf_202 rfl (by decide) hk (by show _ < 40; omega) ?_
    refine z_lmulT (pc := 203) (cx := 1) dX11_depthOf_203 (by decide) rfl (by omega) (by omega) (fun v203 e203 => ?_)
    refine z_lload (pc := 204) dX11_depthOf_204 rfl ?_
    refine z_aload_n (pc := 206) dX11_depthOf_206 rfl ?_
    refine z_getR (pc := 207) (t := 41) dX11_depthOf_207 fk_X11_51 rfl (by decide) (by decide) (by decide) rfl ?_
    refine z_iload (pc := 210) dX11_depthOf_210 rfl ?_
    refine z_laldN (pc := 212) k dX11_depthOf_212 rfl (by decide) hk (by show _ < 40; omega) ?_
    refine z_lmulT (pc := 213) (cx := 1) dX11_depthOf_213 (by decide) rfl (by omega) (by omega) (fun v213 e213 => ?_)
    refine z_lload (pc := 214) dX11_depthOf_214 rfl ?_
    refine z_aload_n (pc := 216) dX11_depthOf_216 rfl ?_
    refine z_getR (pc := 217) (t := 42) dX11_depthOf_217 fk_X11_54 rfl (by decide) (by decide) (by decide) rfl ?_
    refine z_iload (pc := 220) dX11_depthOf_220 rfl ?_
    refine z_laldN (pc := 222) k dX11_depthOf_222 rfl (by decide) hk (by show _ < 40; omega) ?_
    refine z_lmulT (pc := 223) (cx := 1) dX11_depthOf_223 (by decide) rfl (by omega) (by omega) (fun v223 e223 => ?_)
    refine z_iv5 (pc := 224) dX11_depthOf_224 kv_X11_234 rfl (by decide) (by decide) rfl rfl ?_
    refine c_X11_sumBeyond (P := prs n pt) (V := V) (w := w2 pt) (A := (-(V i).2)) (B := (V i).1) (C := (V i).1) (D := (V i).2) hV (by omega) (w2_rng pt) hb hxn (by omega) (by omega) (by omega) (by omega) (by omega) (by omega) (by omega) (by omega) (fun rs ers => ?_)
    refine z_istore (pc := 227) dX11_depthOf_227 rfl rfl (by dsimp only [setI, setL, List.set]) ?_
    refine z_iload (pc := 229) dX11_depthOf_229 rfl ?_
    refine z_iload (pc := 231) dX11_depthOf_231 rfl ?_
    refine zq_icmp_ge (pc := 233) (tgt := 241) dX11_depthOf_233 rfl rfl rfl (fun h233 => ?_) (fun h233 => ?_)
    · skip
      refine z_iload (pc := 241) dX11_depthOf_241 rfl ?_
      refine z_istore (pc := 243) dX11_depthOf_243 rfl rfl (by dsimp only [setI, setL, List.set]) ?_
      refine z_iincT (pc := 245) dX11_depthOf_245 rfl rfl (by decide) (by decide) (by decide) (by decide) rfl rfl (fun v => by dsimp only [setI, setL, List.set]) (fun v245 e245 => ?_)
      refine z_goto (pc := 248) (tgt := 143) dX11_depthOf_248 rfl ?_
      refine z_sub (L' := [some _, some _, none, some _, none, some _, none, some _, some _, some _, some _, some _, none, none, none, none, none]) ⟨rfl, rfl, rfl, rfl, rfl, rfl, rfl, rfl, rfl, trivial⟩ ?_
      obtain rfl : v245 = 1 := Int32.toInt_inj.mp (by rw [e245]; rfl)
      exact hnext x9 (by omega)
    · skip
      refine z_iload (pc := 236) dX11_depthOf_236 rfl ?_
      refine z_goto (pc := 238) (tgt := 243) dX11_depthOf_238 rfl ?_
      refine z_istore (pc := 243) dX11_depthOf_243 rfl rfl (by dsimp only [setI, setL, List.set]) ?_
      refine z_iincT (pc := 245) dX11_depthOf_245 rfl rfl (by decide) (by decide) (by decide) (by decide) rfl rfl (fun v => by dsimp only [setI, setL, List.set]) (fun v245 e245 => ?_)
      refine z_goto (pc := 248) (tgt := 143) dX11_depthOf_248 rfl ?_
      refine z_sub (L' := [some _, some _, none, some _, none, some _, none, some _, some _, some _, some _, some _, none, none, none, none, none]) ⟨rfl, rfl, rfl, rfl, rfl, rfl, rfl, rfl, rfl, trivial⟩ ?_
      obtain rfl : v245 = 1 := Int32.toInt_inj.mp (by rw [e245]; rfl)
      exact hnext rs (by omega)

theorem c_mdep_1 {l : Launch} {G : Gx} {d : Nat} {σ : Sg} {Q : Option Value → Sg → Prop} {n k i : Nat} {pt : Nat → Pt} {V : Nat → Int × Int} {px py pd : Int64} {xn xa xk : Int32} {m : Int} {x9 : Int32} (hV : okVM σ (prs n pt) V (w2 pt)) (hn : n ≤ 40) (hb : bdV n pt V) (hxn : xn.toInt = ((prs n pt).length : Int)) (hi : (prs n pt)[k]? = some i) (hk : xk.toInt = (k : Int)) (h9 : x9.toInt = m) (hnext : ∀ x9 : Int32, x9.toInt = min m (lsum (prs n pt) (wY V (w2 pt) (-(V i).2) (V i).1 (-(V i).1) (-(V i).2))) → Z l G M_X11_depthOf (d + 1) 143 [some (.ref 1), some (.long px), none, some (.long py), none, some (.long pd), none, some (.int xn), some (.int xa), some (.int x9), some (.int xk), some (.int 2), none, none, none, none, none] [] σ Q) : Z l G M_X11_depthOf (d + 1) 143 [some (.ref 1), some (.long px), none, some (.long py), none, some (.long pd), none, some (.int xn), some (.int xa), some (.int x9), some (.int xk), some (.int 1), none, none, none, none, none] [] σ Q := by
  have hkl := (List.getElem?_eq_some_iff.mp hi).1
  have hpl := prs_len n pt
  have vi := hV k i hi
  have bi := hb i (List.mem_of_getElem? hi)
  have h2n : ¬ (2 : Int32) = 0 := by decide
  refine z_iload (pc := 143) dX11_depthOf_143 rfl ?_
  refine z_iconst (pc := 145) (v := 4) dX11_depthOf_145 (by decide) ?_
  refine z_icmp_ge (pc := 146) (tgt := 251) dX11_depthOf_146 rfl (fun hc => absurd hc (by decide)) (fun _ => ?_)
  refine z_iload (pc := 149) dX11_depthOf_149 rfl ?_
  refine z_iconst (pc := 151) (v := 2) dX11_depthOf_151 (by decide) ?_
  refine z_icmp_ge (pc := 152) (tgt := 159) dX11_depthOf_152 rfl (fun hc => absurd hc (by decide)) (fun _ => ?_)
  refine z_lconst (pc := 155) (v := 1) dX11_depthOf_155 (by decide) ?_
  refine z_goto (pc := 156) (tgt := 162) dX11_depthOf_156 rfl ?_
  refine z_lstore (pc := 162) dX11_depthOf_162 rfl rfl (by dsimp only [setI, setL, List.set]) ?_
  refine z_iload (pc := 164) dX11_depthOf_164 rfl ?_
  refine z_iconst (pc := 166) (v := 2) dX11_depthOf_166 (by decide) ?_
  refine z_irem (pc := 167) dX11_depthOf_167 (by assumption) ?_
  refine zq_if_ne (pc := 168) (tgt := 175) dX11_depthOf_168 rfl rfl (fun h168 => ?_) (fun h168 => ?_)
  · skip
    skip
    refine z_ldc2 (pc := 175) dX11_depthOf_175 kc_X11_232 ?_
    refine z_lstore (pc := 178) dX11_depthOf_178 rfl rfl (by dsimp only [setI, setL, List.set]) ?_
    refine z_aload_n (pc := 180) dX11_depthOf_180 rfl ?_
    refine z_iload (pc := 181) dX11_depthOf_181 rfl ?_
    refine z_lload (pc := 183) dX11_depthOf_183 rfl ?_
    refine z_lnegT (pc := 185) (cx := 1) dX11_depthOf_185 (by decide) (by decide) (by decide) (fun v185 e185 => ?_)
    refine z_aload_n (pc := 186) dX11_depthOf_186 rfl ?_
    refine z_getR (pc := 187) (t := 42) dX11_depthOf_187 fk_X11_54 rfl (by decide) (by decide) (by decide) rfl ?_
    refine z_iload (pc := 190) dX11_depthOf_190 rfl ?_
    refine z_laldN (pc := 192) k dX11_depthOf_192 rfl (by decide) hk (by show _ < 40; omega) ?_
    refine z_lmulT (pc := 193) dX11_depthOf_193 rfl rfl (by rw [e185]; omega) (by rw [e185]; omega) (fun v193 e193 => ?_)
    rw [e185] at e193
    refine z_lload (pc := 194) dX11_depthOf_194 rfl ?_
    refine z_aload_n (pc := 196) dX11_depthOf_196 rfl ?_
    refine z_getR (pc := 197) (t := 41) dX11_depthOf_197 fk_X11_51 rfl (by decide) (by decide) (by decide) rfl ?_
    refine z_iload (pc := 200) dX11_depthOf_200 rfl ?_
    refine z_laldN (pc := 202) k dX11_depthOf_202 rfl (by decide) hk (by show _ < 40; omega) ?_
    refine z_lmulT (pc := 203) (cx := 1) dX11_depthOf_203 (by decide) rfl (by omega) (by omega) (fun v203 e203 => ?_)
    refine z_lload (pc := 204) dX11_depthOf_204 rfl ?_
    refine z_aload_n (pc := 206) dX11_depthOf_206 rfl ?_
    refine z_getR (pc := 207) (t := 41) dX11_depthOf_207 fk_X11_51 rfl (by decide) (by decide) (by decide) rfl ?_
    refine z_iload (pc := 210) dX11_depthOf_210 rfl ?_
    refine z_laldN (pc := 212) k dX11_depthOf_212 rfl (by decide) hk (by show _ < 40; omega) ?_
    refine z_lmulT (pc := 213) (cx := -1) dX11_depthOf_213 (by decide) rfl (by omega) (by omega) (fun v213 e213 => ?_)
    refine z_lload (pc := 214) dX11_depthOf_214 rfl ?_
    refine z_aload_n (pc := 216) dX11_depthOf_216 rfl ?_
    refine z_getR (pc := 217) (t := 42) dX11_depthOf_217 fk_X11_54 rfl (by decide) (by decide) (by decide) rfl ?_
    refine z_iload (pc := 220) dX11_depthOf_220 rfl ?_
    refine z_laldN (pc := 222) k dX11_depthOf_222 rfl (by decide) hk (by show _ < 40; omega) ?_
    refine z_lmulT (pc := 223) (cx := -1) dX11_depthOf_223 (by decide) rfl (by omega) (by omega) (fun v223 e223 => ?_)
    refine z_iv5 (pc := 224) dX11_depthOf_224 kv_X11_234 rfl (by decide) (by decide) rfl rfl ?_
    refine c_X11_sumBeyond (P := prs n pt) (V := V) (w := w2 pt) (A := (-(V i).2)) (B := (V i).1) (C := (-(V i).1)) (D := (-(V i).2)) hV (by omega) (w2_rng pt) hb hxn (by omega) (by omega) (by omega) (by omega) (by omega) (by omega) (by omega) (by omega) (fun rs ers => ?_)
    refine z_istore (pc := 227) dX11_depthOf_227 rfl rfl (by dsimp only [setI, setL, List.set]) ?_
    refine z_iload (pc := 229) dX11_depthOf_229 rfl ?_
    refine z_iload (pc := 231) dX11_depthOf_231 rfl ?_
    refine zq_icmp_ge (pc := 233) (tgt := 241) dX11_depthOf_233 rfl rfl rfl (fun h233 => ?_) (fun h233 => ?_)
    · skip
      refine z_iload (pc := 241) dX11_depthOf_241 rfl ?_
      refine z_istore (pc := 243) dX11_depthOf_243 rfl rfl (by dsimp only [setI, setL, List.set]) ?_
      refine z_iincT (pc := 245) dX11_depthOf_245 rfl rfl (by decide) (by decide) (by decide) (by decide) rfl rfl (fun v => by dsimp only [setI, setL, List.set]) (fun v245 e245 => ?_)
      refine z_goto (pc := 248) (tgt := 143) dX11_depthOf_248 rfl ?_
      refine z_sub (L' := [some _, some _, none, some _, none, some _, none, some _, some _, some _, some _, some _, none, none, none, none, none]) ⟨rfl, rfl, rfl, rfl, rfl, rfl, rfl, rfl, rfl, trivial⟩ ?_
      obtain rfl : v245 = 2 := Int32.toInt_inj.mp (by rw [e245]; rfl)
      exact hnext x9 (by omega)
    · skip
      refine z_iload (pc := 236) dX11_depthOf_236 rfl ?_
      refine z_goto (pc := 238) (tgt := 243) dX11_depthOf_238 rfl ?_
      refine z_istore (pc := 243) dX11_depthOf_243 rfl rfl (by dsimp only [setI, setL, List.set]) ?_
      refine z_iincT (pc := 245) dX11_depthOf_245 rfl rfl (by decide) (by decide) (by decide) (by decide) rfl rfl (fun v => by dsimp only [setI, setL, List.set]) (fun v245 e245 => ?_)
      refine z_goto (pc := 248) (tgt := 143) dX11_depthOf_248 rfl ?_
      refine z_sub (L' := [some _, some _, none, some _, none, some _, none, some _, some _, some _, some _, some _, none, none, none, none, none]) ⟨rfl, rfl, rfl, rfl, rfl, rfl, rfl, rfl, rfl, trivial⟩ ?_
      obtain rfl : v245 = 2 := Int32.toInt_inj.mp (by rw [e245]; rfl)
      exact hnext rs (by omega)
  · skip
    exact absurd h168 (by decide)

theorem c_mdep_2 {l : Launch} {G : Gx} {d : Nat} {σ : Sg} {Q : Option Value → Sg → Prop} {n k i : Nat} {pt : Nat → Pt} {V : Nat → Int × Int} {px py pd : Int64} {xn xa xk : Int32} {m : Int} {x9 : Int32} (hV : okVM σ (prs n pt) V (w2 pt)) (hn : n ≤ 40) (hb : bdV n pt V) (hxn : xn.toInt = ((prs n pt).length : Int)) (hi : (prs n pt)[k]? = some i) (hk : xk.toInt = (k : Int)) (h9 : x9.toInt = m) (hnext : ∀ x9 : Int32, x9.toInt = min m (lsum (prs n pt) (wY V (w2 pt) (V i).2 (-(V i).1) (V i).1 (V i).2)) → Z l G M_X11_depthOf (d + 1) 143 [some (.ref 1), some (.long px), none, some (.long py), none, some (.long pd), none, some (.int xn), some (.int xa), some (.int x9), some (.int xk), some (.int 3), none, none, none, none, none] [] σ Q) : Z l G M_X11_depthOf (d + 1) 143 [some (.ref 1), some (.long px), none, some (.long py), none, some (.long pd), none, some (.int xn), some (.int xa), some (.int x9), some (.int xk), some (.int 2), none, none, none, none, none] [] σ Q := by
  have hkl := (List.getElem?_eq_some_iff.mp hi).1
  have hpl := prs_len n pt
  have vi := hV k i hi
  have bi := hb i (List.mem_of_getElem? hi)
  have h2n : ¬ (2 : Int32) = 0 := by decide
  refine z_iload (pc := 143) dX11_depthOf_143 rfl ?_
  refine z_iconst (pc := 145) (v := 4) dX11_depthOf_145 (by decide) ?_
  refine z_icmp_ge (pc := 146) (tgt := 251) dX11_depthOf_146 rfl (fun hc => absurd hc (by decide)) (fun _ => ?_)
  refine z_iload (pc := 149) dX11_depthOf_149 rfl ?_
  refine z_iconst (pc := 151) (v := 2) dX11_depthOf_151 (by decide) ?_
  refine z_icmp_ge (pc := 152) (tgt := 159) dX11_depthOf_152 rfl (fun _ => ?_) (fun hc => absurd hc (by decide))
  refine z_ldc2 (pc := 159) dX11_depthOf_159 kc_X11_232 ?_
  refine z_lstore (pc := 162) dX11_depthOf_162 rfl rfl (by dsimp only [setI, setL, List.set]) ?_
  refine z_iload (pc := 164) dX11_depthOf_164 rfl ?_
  refine z_iconst (pc := 166) (v := 2) dX11_depthOf_166 (by decide) ?_
  refine z_irem (pc := 167) dX11_depthOf_167 (by assumption) ?_
  refine zq_if_ne (pc := 168) (tgt := 175) dX11_depthOf_168 rfl rfl (fun h168 => ?_) (fun h168 => ?_)
  · skip
    exact absurd h168 (by decide)
  · skip
    skip
    refine z_lconst (pc := 171) (v := 1) dX11_depthOf_171 (by decide) ?_
    refine z_goto (pc := 172) (tgt := 178) dX11_depthOf_172 rfl ?_
    refine z_lstore (pc := 178) dX11_depthOf_178 rfl rfl (by dsimp only [setI, setL, List.set]) ?_
    refine z_aload_n (pc := 180) dX11_depthOf_180 rfl ?_
    refine z_iload (pc := 181) dX11_depthOf_181 rfl ?_
    refine z_lload (pc := 183) dX11_depthOf_183 rfl ?_
    refine z_lnegT (pc := 185) (cx := -1) dX11_depthOf_185 (by decide) (by decide) (by decide) (fun v185 e185 => ?_)
    refine z_aload_n (pc := 186) dX11_depthOf_186 rfl ?_
    refine z_getR (pc := 187) (t := 42) dX11_depthOf_187 fk_X11_54 rfl (by decide) (by decide) (by decide) rfl ?_
    refine z_iload (pc := 190) dX11_depthOf_190 rfl ?_
    refine z_laldN (pc := 192) k dX11_depthOf_192 rfl (by decide) hk (by show _ < 40; omega) ?_
    refine z_lmulT (pc := 193) dX11_depthOf_193 rfl rfl (by rw [e185]; omega) (by rw [e185]; omega) (fun v193 e193 => ?_)
    rw [e185] at e193
    refine z_lload (pc := 194) dX11_depthOf_194 rfl ?_
    refine z_aload_n (pc := 196) dX11_depthOf_196 rfl ?_
    refine z_getR (pc := 197) (t := 41) dX11_depthOf_197 fk_X11_51 rfl (by decide) (by decide) (by decide) rfl ?_
    refine z_iload (pc := 200) dX11_depthOf_200 rfl ?_
    refine z_laldN (pc := 202) k dX11_depthOf_202 rfl (by decide) hk (by show _ < 40; omega) ?_
    refine z_lmulT (pc := 203) (cx := -1) dX11_depthOf_203 (by decide) rfl (by omega) (by omega) (fun v203 e203 => ?_)
    refine z_lload (pc := 204) dX11_depthOf_204 rfl ?_
    refine z_aload_n (pc := 206) dX11_depthOf_206 rfl ?_
    refine z_getR (pc := 207) (t := 41) dX11_depthOf_207 fk_X11_51 rfl (by decide) (by decide) (by decide) rfl ?_
    refine z_iload (pc := 210) dX11_depthOf_210 rfl ?_
    refine z_laldN (pc := 212) k dX11_depthOf_212 rfl (by decide) hk (by show _ < 40; omega) ?_
    refine z_lmulT (pc := 213) (cx := 1) dX11_depthOf_213 (by decide) rfl (by omega) (by omega) (fun v213 e213 => ?_)
    refine z_lload (pc := 214) dX11_depthOf_214 rfl ?_
    refine z_aload_n (pc := 216) dX11_depthOf_216 rfl ?_
    refine z_getR (pc := 217) (t := 42) dX11_depthOf_217 fk_X11_54 rfl (by decide) (by decide) (by decide) rfl ?_
    refine z_iload (pc := 220) dX11_depthOf_220 rfl ?_
    refine z_laldN (pc := 222) k dX11_depthOf_222 rfl (by decide) hk (by show _ < 40; omega) ?_
    refine z_lmulT (pc := 223) (cx := 1) dX11_depthOf_223 (by decide) rfl (by omega) (by omega) (fun v223 e223 => ?_)
    refine z_iv5 (pc := 224) dX11_depthOf_224 kv_X11_234 rfl (by decide) (by decide) rfl rfl ?_
    refine c_X11_sumBeyond (P := prs n pt) (V := V) (w := w2 pt) (A := (V i).2) (B := (-(V i).1)) (C := (V i).1) (D := (V i).2) hV (by omega) (w2_rng pt) hb hxn (by omega) (by omega) (by omega) (by omega) (by omega) (by omega) (by omega) (by omega) (fun rs ers => ?_)
    refine z_istore (pc := 227) dX11_depthOf_227 rfl rfl (by dsimp only [setI, setL, List.set]) ?_
    refine z_iload (pc := 229) dX11_depthOf_229 rfl ?_
    refine z_iload (pc := 231) dX11_depthOf_231 rfl ?_
    refine zq_icmp_ge (pc := 233) (tgt := 241) dX11_depthOf_233 rfl rfl rfl (fun h233 => ?_) (fun h233 => ?_)
    · skip
      refine z_iload (pc := 241) dX11_depthOf_241 rfl ?_
      refine z_istore (pc := 243) dX11_depthOf_243 rfl rfl (by dsimp only [setI, setL, List.set]) ?_
      refine z_iincT (pc := 245) dX11_depthOf_245 rfl rfl (by decide) (by decide) (by decide) (by decide) rfl rfl (fun v => by dsimp only [setI, setL, List.set]) (fun v245 e245 => ?_)
      refine z_goto (pc := 248) (tgt := 143) dX11_depthOf_248 rfl ?_
      refine z_sub (L' := [some _, some _, none, some _, none, some _, none, some _, some _, some _, some _, some _, none, none, none, none, none]) ⟨rfl, rfl, rfl, rfl, rfl, rfl, rfl, rfl, rfl, trivial⟩ ?_
      obtain rfl : v245 = 3 := Int32.toInt_inj.mp (by rw [e245]; rfl)
      exact hnext x9 (by omega)
    · skip
      refine z_iload (pc := 236) dX11_depthOf_236 rfl ?_
      refine z_goto (pc := 238) (tgt := 243) dX11_depthOf_238 rfl ?_
      refine z_istore (pc := 243) dX11_depthOf_243 rfl rfl (by dsimp only [setI, setL, List.set]) ?_
      refine z_iincT (pc := 245) dX11_depthOf_245 rfl rfl (by decide) (by decide) (by decide) (by decide) rfl rfl (fun v => by dsimp only [setI, setL, List.set]) (fun v245 e245 => ?_)
      refine z_goto (pc := 248) (tgt := 143) dX11_depthOf_248 rfl ?_
      refine z_sub (L' := [some _, some _, none, some _, none, some _, none, some _, some _, some _, some _, some _, none, none, none, none, none]) ⟨rfl, rfl, rfl, rfl, rfl, rfl, rfl, rfl, rfl, trivial⟩ ?_
      obtain rfl : v245 = 3 := Int32.toInt_inj.mp (by rw [e245]; rfl)
      exact hnext rs (by omega)

theorem c_mdep_3 {l : Launch} {G : Gx} {d : Nat} {σ : Sg} {Q : Option Value → Sg → Prop} {n k i : Nat} {pt : Nat → Pt} {V : Nat → Int × Int} {px py pd : Int64} {xn xa xk : Int32} {m : Int} {x9 : Int32} (hV : okVM σ (prs n pt) V (w2 pt)) (hn : n ≤ 40) (hb : bdV n pt V) (hxn : xn.toInt = ((prs n pt).length : Int)) (hi : (prs n pt)[k]? = some i) (hk : xk.toInt = (k : Int)) (h9 : x9.toInt = m) (hnext : ∀ x9 : Int32, x9.toInt = min m (lsum (prs n pt) (wY V (w2 pt) (V i).2 (-(V i).1) (-(V i).1) (-(V i).2))) → Z l G M_X11_depthOf (d + 1) 143 [some (.ref 1), some (.long px), none, some (.long py), none, some (.long pd), none, some (.int xn), some (.int xa), some (.int x9), some (.int xk), some (.int 4), none, none, none, none, none] [] σ Q) : Z l G M_X11_depthOf (d + 1) 143 [some (.ref 1), some (.long px), none, some (.long py), none, some (.long pd), none, some (.int xn), some (.int xa), some (.int x9), some (.int xk), some (.int 3), none, none, none, none, none] [] σ Q := by
  have hkl := (List.getElem?_eq_some_iff.mp hi).1
  have hpl := prs_len n pt
  have vi := hV k i hi
  have bi := hb i (List.mem_of_getElem? hi)
  have h2n : ¬ (2 : Int32) = 0 := by decide
  refine z_iload (pc := 143) dX11_depthOf_143 rfl ?_
  refine z_iconst (pc := 145) (v := 4) dX11_depthOf_145 (by decide) ?_
  refine z_icmp_ge (pc := 146) (tgt := 251) dX11_depthOf_146 rfl (fun hc => absurd hc (by decide)) (fun _ => ?_)
  refine z_iload (pc := 149) dX11_depthOf_149 rfl ?_
  refine z_iconst (pc := 151) (v := 2) dX11_depthOf_151 (by decide) ?_
  refine z_icmp_ge (pc := 152) (tgt := 159) dX11_depthOf_152 rfl (fun _ => ?_) (fun hc => absurd hc (by decide))
  refine z_ldc2 (pc := 159) dX11_depthOf_159 kc_X11_232 ?_
  refine z_lstore (pc := 162) dX11_depthOf_162 rfl rfl (by dsimp only [setI, setL, List.set]) ?_
  refine z_iload (pc := 164) dX11_depthOf_164 rfl ?_
  refine z_iconst (pc := 166) (v := 2) dX11_depthOf_166 (by decide) ?_
  refine z_irem (pc := 167) dX11_depthOf_167 (by assumption) ?_
  refine zq_if_ne (pc := 168) (tgt := 175) dX11_depthOf_168 rfl rfl (fun h168 => ?_) (fun h168 => ?_)
  · skip
    skip
    refine z_ldc2 (pc := 175) dX11_depthOf_175 kc_X11_232 ?_
    refine z_lstore (pc := 178) dX11_depthOf_178 rfl rfl (by dsimp only [setI, setL, List.set]) ?_
    refine z_aload_n (pc := 180) dX11_depthOf_180 rfl ?_
    refine z_iload (pc := 181) dX11_depthOf_181 rfl ?_
    refine z_lload (pc := 183) dX11_depthOf_183 rfl ?_
    refine z_lnegT (pc := 185) (cx := -1) dX11_depthOf_185 (by decide) (by decide) (by decide) (fun v185 e185 => ?_)
    refine z_aload_n (pc := 186) dX11_depthOf_186 rfl ?_
    refine z_getR (pc := 187) (t := 42) dX11_depthOf_187 fk_X11_54 rfl (by decide) (by decide) (by decide) rfl ?_
    refine z_iload (pc := 190) dX11_depthOf_190 rfl ?_
    refine z_laldN (pc := 192) k dX11_depthOf_192 rfl (by decide) hk (by show _ < 40; omega) ?_
    refine z_lmulT (pc := 193) dX11_depthOf_193 rfl rfl (by rw [e185]; omega) (by rw [e185]; omega) (fun v193 e193 => ?_)
    rw [e185] at e193
    refine z_lload (pc := 194) dX11_depthOf_194 rfl ?_
    refine z_aload_n (pc := 196) dX11_depthOf_196 rfl ?_
    refine z_getR (pc := 197) (t := 41) dX11_depthOf_197 fk_X11_51 rfl (by decide) (by decide) (by decide) rfl ?_
    refine z_iload (pc := 200) dX11_depthOf_200 rfl ?_
    refine z_laldN (pc := 202) k dX11_depthOf_202 rfl (by decide) hk (by show _ < 40; omega) ?_
    refine z_lmulT (pc := 203) (cx := -1) dX11_depthOf_203 (by decide) rfl (by omega) (by omega) (fun v203 e203 => ?_)
    refine z_lload (pc := 204) dX11_depthOf_204 rfl ?_
    refine z_aload_n (pc := 206) dX11_depthOf_206 rfl ?_
    refine z_getR (pc := 207) (t := 41) dX11_depthOf_207 fk_X11_51 rfl (by decide) (by decide) (by decide) rfl ?_
    refine z_iload (pc := 210) dX11_depthOf_210 rfl ?_
    refine z_laldN (pc := 212) k dX11_depthOf_212 rfl (by decide) hk (by show _ < 40; omega) ?_
    refine z_lmulT (pc := 213) (cx := -1) dX11_depthOf_213 (by decide) rfl (by omega) (by omega) (fun v213 e213 => ?_)
    refine z_lload (pc := 214) dX11_depthOf_214 rfl ?_
    refine z_aload_n (pc := 216) dX11_depthOf_216 rfl ?_
    refine z_getR (pc := 217) (t := 42) dX11_depthOf_217 fk_X11_54 rfl (by decide) (by decide) (by decide) rfl ?_
    refine z_iload (pc := 220) dX11_depthOf_220 rfl ?_
    refine z_laldN (pc := 222) k dX11_depthOf_222 rfl (by decide) hk (by show _ < 40; omega) ?_
    refine z_lmulT (pc := 223) (cx := -1) dX11_depthOf_223 (by decide) rfl (by omega) (by omega) (fun v223 e223 => ?_)
    refine z_iv5 (pc := 224) dX11_depthOf_224 kv_X11_234 rfl (by decide) (by decide) rfl rfl ?_
    refine c_X11_sumBeyond (P := prs n pt) (V := V) (w := w2 pt) (A := (V i).2) (B := (-(V i).1)) (C := (-(V i).1)) (D := (-(V i).2)) hV (by omega) (w2_rng pt) hb hxn (by omega) (by omega) (by omega) (by omega) (by omega) (by omega) (by omega) (by omega) (fun rs ers => ?_)
    refine z_istore (pc := 227) dX11_depthOf_227 rfl rfl (by dsimp only [setI, setL, List.set]) ?_
    refine z_iload (pc := 229) dX11_depthOf_229 rfl ?_
    refine z_iload (pc := 231) dX11_depthOf_231 rfl ?_
    refine zq_icmp_ge (pc := 233) (tgt := 241) dX11_depthOf_233 rfl rfl rfl (fun h233 => ?_) (fun h233 => ?_)
    · skip
      refine z_iload (pc := 241) dX11_depthOf_241 rfl ?_
      refine z_istore (pc := 243) dX11_depthOf_243 rfl rfl (by dsimp only [setI, setL, List.set]) ?_
      refine z_iincT (pc := 245) dX11_depthOf_245 rfl rfl (by decide) (by decide) (by decide) (by decide) rfl rfl (fun v => by dsimp only [setI, setL, List.set]) (fun v245 e245 => ?_)
      refine z_goto (pc := 248) (tgt := 143) dX11_depthOf_248 rfl ?_
      refine z_sub (L' := [some _, some _, none, some _, none, some _, none, some _, some _, some _, some _, some _, none, none, none, none, none]) ⟨rfl, rfl, rfl, rfl, rfl, rfl, rfl, rfl, rfl, trivial⟩ ?_
      obtain rfl : v245 = 4 := Int32.toInt_inj.mp (by rw [e245]; rfl)
      exact hnext x9 (by omega)
    · skip
      refine z_iload (pc := 236) dX11_depthOf_236 rfl ?_
      refine z_goto (pc := 238) (tgt := 243) dX11_depthOf_238 rfl ?_
      refine z_istore (pc := 243) dX11_depthOf_243 rfl rfl (by dsimp only [setI, setL, List.set]) ?_
      refine z_iincT (pc := 245) dX11_depthOf_245 rfl rfl (by decide) (by decide) (by decide) (by decide) rfl rfl (fun v => by dsimp only [setI, setL, List.set]) (fun v245 e245 => ?_)
      refine z_goto (pc := 248) (tgt := 143) dX11_depthOf_248 rfl ?_
      refine z_sub (L' := [some _, some _, none, some _, none, some _, none, some _, some _, some _, some _, some _, none, none, none, none, none]) ⟨rfl, rfl, rfl, rfl, rfl, rfl, rfl, rfl, rfl, trivial⟩ ?_
      obtain rfl : v245 = 4 := Int32.toInt_inj.mp (by rw [e245]; rfl)
      exact hnext rs (by omega)
  · skip
    exact absurd h168 (by decide)

theorem c_mdep_k {l : Launch} {G : Gx} {d : Nat} {σ : Sg} {Q : Option Value → Sg → Prop} {n : Nat} {pt : Nat → Pt} {V : Nat → Int × Int} {px py pd : Int64} {xn xa : Int32} (hV : okVM σ (prs n pt) V (w2 pt)) (hn : n ≤ 40) (hb : bdV n pt V) (hxn : xn.toInt = ((prs n pt).length : Int)) (h : ∀ r : Int32, r.toInt = dep (prs n pt) V (w2 pt) → Q (some (.int r)) σ) : ∀ (f k : Nat) (x9 xk : Int32) (y11 y12 y14 y16 : Option Value), xk.toInt = (k : Int) → k ≤ (prs n pt).length → (prs n pt).length - k < f → x9.toInt = dPart (prs n pt) V (w2 pt) k → Z l G M_X11_depthOf (d + 1) 109 [some (.ref 1), some (.long px), none, some (.long py), none, some (.long pd), none, some (.int xn), some (.int xa), some (.int x9), some (.int xk), y11, y12, none, y14, none, y16] [] σ Q := by
  intro f
  induction f with
  | zero => intro k x9 xk y11 y12 y14 y16 hk hkl hfu h9; omega
  | succ f ih =>
  intro k x9 xk y11 y12 y14 y16 hk hkl hfu h9
  refine z_sub (L' := [some _, some _, none, some _, none, some _, none, some _, some _, some _, some _, none, none, none, none, none, none]) ⟨rfl, rfl, rfl, rfl, rfl, rfl, rfl, rfl, trivial⟩ ?_
  have hpl := prs_len n pt
  refine z_iload (pc := 109) dX11_depthOf_109 rfl ?_
  refine z_iload (pc := 111) dX11_depthOf_111 rfl ?_
  refine zq_icmp_ge (pc := 113) (tgt := 257) dX11_depthOf_113 rfl rfl rfl (fun h113 => ?_) (fun h113 => ?_)
  · skip
    refine z_iload (pc := 257) dX11_depthOf_257 rfl ?_
    refine z_iret (pc := 259) dX11_depthOf_259 rfl ?_
    refine h _ ?_
    have ek : k = (prs n pt).length := by omega
    subst ek
    rw [h9]
    unfold dPart dep
    rw [List.take_length]
  · skip
    obtain ⟨i, hi⟩ : ∃ i, (prs n pt)[k]? = some i := ⟨_, List.getElem?_eq_getElem (by omega)⟩
    have vk := hV k i hi
    have hst := dPart_step (V := V) (w := w2 pt) hi
    unfold dStep at hst
    refine z_aload_n (pc := 116) dX11_depthOf_116 rfl ?_
    refine z_getR (pc := 117) (t := 41) dX11_depthOf_117 fk_X11_51 rfl (by decide) (by decide) (by decide) rfl ?_
    refine z_iload (pc := 120) dX11_depthOf_120 rfl ?_
    refine z_laldN (pc := 122) k dX11_depthOf_122 rfl (by decide) hk (by show _ < 40; omega) ?_
    refine z_lconst (pc := 123) (v := 0) dX11_depthOf_123 (by decide) ?_
    refine zq_lc_ne (pc := 124) (cy := 0) (tgt := 140) dX11_depthOf_124 dX11_depthOf_125 rfl rfl (by decide) (fun h124 => ?_) (fun h124 => ?_)
    · skip
      refine z_iconst (pc := 140) (v := 0) dX11_depthOf_140 (by decide) ?_
      refine z_istore (pc := 141) dX11_depthOf_141 rfl rfl (by dsimp only [setI, setL, List.set]) ?_
      rw [if_neg (by omega)] at hst
      have s1 := sY1 (prs n pt) V (w2 pt) (V i)
      have s2 := sY2 (prs n pt) V (w2 pt) (V i)
      have s3 := sY3 (prs n pt) V (w2 pt) (V i)
      have s4 := sY4 (prs n pt) V (w2 pt) (V i)
      refine c_mdep_0 hV hn hb hxn hi hk h9 ?_
      intro z1 ez1
      refine c_mdep_1 hV hn hb hxn hi hk ez1 ?_
      intro z2 ez2
      refine c_mdep_2 hV hn hb hxn hi hk ez2 ?_
      intro z3 ez3
      refine c_mdep_3 hV hn hb hxn hi hk ez3 ?_
      intro z4 ez4
      refine z_iload (pc := 143) dX11_depthOf_143 rfl ?_
      refine z_iconst (pc := 145) (v := 4) dX11_depthOf_145 (by decide) ?_
      refine z_icmp_ge (pc := 146) (tgt := 251) dX11_depthOf_146 rfl (fun _ => ?_) (fun hc => absurd hc (by decide))
      refine z_iincT (pc := 251) dX11_depthOf_251 rfl rfl (by decide) (by decide) (by omega) (by omega) rfl rfl (fun v => by dsimp only [setI, setL, List.set]) (fun v251 e251 => ?_)
      refine z_goto (pc := 254) (tgt := 109) dX11_depthOf_254 rfl ?_
      exact ih (k + 1) z4 v251 _ _ _ _ (by omega) (by omega) (by omega) (by rw [hst]; unfold dI; omega)
    · skip
      refine z_aload_n (pc := 128) dX11_depthOf_128 rfl ?_
      refine z_getR (pc := 129) (t := 42) dX11_depthOf_129 fk_X11_54 rfl (by decide) (by decide) (by decide) rfl ?_
      refine z_iload (pc := 132) dX11_depthOf_132 rfl ?_
      refine z_laldN (pc := 134) k dX11_depthOf_134 rfl (by decide) hk (by show _ < 40; omega) ?_
      refine z_lconst (pc := 135) (v := 0) dX11_depthOf_135 (by decide) ?_
      refine zq_lc_eq (pc := 136) (cy := 0) (tgt := 251) dX11_depthOf_136 dX11_depthOf_137 rfl rfl (by decide) (fun h136 => ?_) (fun h136 => ?_)
      · skip
        refine z_iincT (pc := 251) dX11_depthOf_251 rfl rfl (by decide) (by decide) (by omega) (by omega) rfl rfl (fun v => by dsimp only [setI, setL, List.set]) (fun v251 e251 => ?_)
        refine z_goto (pc := 254) (tgt := 109) dX11_depthOf_254 rfl ?_
        rw [if_pos (by omega)] at hst
        exact ih (k + 1) x9 v251 _ _ _ _ (by omega) (by omega) (by omega) (by rw [hst]; exact h9)
      · skip
        refine z_iconst (pc := 140) (v := 0) dX11_depthOf_140 (by decide) ?_
        refine z_istore (pc := 141) dX11_depthOf_141 rfl rfl (by dsimp only [setI, setL, List.set]) ?_
        rw [if_neg (by omega)] at hst
        have s1 := sY1 (prs n pt) V (w2 pt) (V i)
        have s2 := sY2 (prs n pt) V (w2 pt) (V i)
        have s3 := sY3 (prs n pt) V (w2 pt) (V i)
        have s4 := sY4 (prs n pt) V (w2 pt) (V i)
        refine c_mdep_0 hV hn hb hxn hi hk h9 ?_
        intro z1 ez1
        refine c_mdep_1 hV hn hb hxn hi hk ez1 ?_
        intro z2 ez2
        refine c_mdep_2 hV hn hb hxn hi hk ez2 ?_
        intro z3 ez3
        refine c_mdep_3 hV hn hb hxn hi hk ez3 ?_
        intro z4 ez4
        refine z_iload (pc := 143) dX11_depthOf_143 rfl ?_
        refine z_iconst (pc := 145) (v := 4) dX11_depthOf_145 (by decide) ?_
        refine z_icmp_ge (pc := 146) (tgt := 251) dX11_depthOf_146 rfl (fun _ => ?_) (fun hc => absurd hc (by decide))
        refine z_iincT (pc := 251) dX11_depthOf_251 rfl rfl (by decide) (by decide) (by omega) (by omega) rfl rfl (fun v => by dsimp only [setI, setL, List.set]) (fun v251 e251 => ?_)
        refine z_goto (pc := 254) (tgt := 109) dX11_depthOf_254 rfl ?_
        exact ih (k + 1) z4 v251 _ _ _ _ (by omega) (by omega) (by omega) (by rw [hst]; unfold dI; omega)

theorem c_mdep_p {l : Launch} {G : Gx} {d : Nat} {σ : Sg} {Q : Option Value → Sg → Prop} {n : Nat} {pt : Nat → Pt} {x y dd : Int} {px py pd : Int64} (hQ : rmQ σ n pt) (ex : px.toInt = x) (ey : py.toInt = y) (ed : pd.toInt = dd) (bx : -500000000 ≤ x ∧ x ≤ 500000000) (by' : -500000000 ≤ y ∧ y ≤ 500000000) (bd : 0 ≤ dd ∧ dd ≤ 1000000) (h : ∀ (r : Int32) (τ : Sg), r.toInt = dep (prs n pt) (vAt pt x y dd) (w2 pt) → eqX 41 43 σ τ → Q (some (.int r)) τ) : ∀ (f p : Nat) (xn xa xp : Int32) (τ : Sg), xp.toInt = (p : Int) → p ≤ n → n - p < f → xn.toInt = ((prs p pt).length : Int) → xa.toInt = lsum (prs p pt) (w2 pt) → okVM τ (prs p pt) (vAt pt x y dd) (w2 pt) → eqX 41 43 σ τ → Z l G M_X11_depthOf (d + 4) 9 [some (.ref 1), some (.long px), none, some (.long py), none, some (.long pd), none, some (.int xn), some (.int xa), some (.int xp), none, none, none, none, none, none, none] [] τ Q := by
  intro f
  induction f with
  | zero => intro p xn xa xp τ hp hpn hfu hn ha hV hE; omega
  | succ f ih =>
  intro p xn xa xp τ hp hpn hfu hn ha hV hE
  have hQt := rmQ_Fr hQ (FrQ_X hE (by omega) (by omega))
  have hg := hQt.2.1.1
  have hn40 := hQ.1
  have hpl := prs_len p pt
  have hsr := lsum_rng (l := prs p pt) (g := w2 pt) (c := 4) (fun i _ => w2_rng pt i)
  have hps := prs_succ p pt
  refine z_iload (pc := 9) dX11_depthOf_9 rfl ?_
  refine z_aload_n (pc := 11) dX11_depthOf_11 rfl ?_
  refine z_getI (pc := 12) dX11_depthOf_12 fk_X11_101 rfl (by decide) (by decide) (by decide) ?_
  refine zq_icmp_ge (pc := 15) (tgt := 102) dX11_depthOf_15 rfl rfl rfl (fun h15 => ?_) (fun h15 => ?_)
  · skip
    refine z_iload (pc := 102) dX11_depthOf_102 rfl ?_
    refine z_istore (pc := 104) dX11_depthOf_104 rfl rfl (by dsimp only [setI, setL, List.set]) ?_
    refine z_iconst (pc := 106) (v := 0) dX11_depthOf_106 (by decide) ?_
    refine z_istore (pc := 107) dX11_depthOf_107 rfl rfl (by dsimp only [setI, setL, List.set]) ?_
    have e : p = n := by omega
    subst e
    exact c_mdep_k hV hn40 (vAt_bd (n := p) (pt := pt) hQ.2.2.1 bx by' bd) hn (fun r er => h r τ er hE) ((prs p pt).length + 1) 0 xa 0 _ _ _ _ (by decide) (by omega) (by omega) (by rw [ha]; rfl)
  · skip
    have hpi := hQt.2.1.2 p (by omega)
    have hok := hQ.2.2.1 p (by omega)
    unfold ptOk at hok
    refine z_aload_n (pc := 18) dX11_depthOf_18 rfl ?_
    refine z_getR (pc := 19) (t := 35) dX11_depthOf_19 fk_X11_22 rfl (by decide) (by decide) (by decide) rfl ?_
    refine z_iload (pc := 22) dX11_depthOf_22 rfl ?_
    refine z_zaldN (pc := 24) p dX11_depthOf_24 rfl (by decide) hp (by show _ < 40; omega) ?_
    refine zq_if_ne (pc := 25) (tgt := 96) dX11_depthOf_25 rfl rfl (fun h25 => ?_) (fun h25 => ?_)
    · skip
      refine z_iincT (pc := 96) dX11_depthOf_96 rfl rfl (by decide) (by decide) (by omega) (by omega) rfl rfl (fun v => by dsimp only [setI, setL, List.set]) (fun v96 e96 => ?_)
      refine z_goto (pc := 99) (tgt := 9) dX11_depthOf_99 rfl ?_
      rw [if_pos (maway_of hpi.2.2.2.2 h25), List.append_nil] at hps
      exact ih (p + 1) xn xa v96 τ (by omega) (by omega) (by omega) (by rw [hps]; exact hn) (by rw [hps]; exact ha) (by rw [hps]; exact hV) hE
    · skip
      rw [if_neg (by rw [mthere_of hpi.2.2.2.2 h25]; decide)] at hps
      have ex1 : (τ.1 31 p).toInt = (pt p).1.toInt := by rw [hpi.1]
      have ey1 : (τ.1 32 p).toInt = (pt p).2.1.toInt := by rw [hpi.2.1]
      have m1 := mulb (a := (τ.1 31 p).toInt) (b := pd.toInt) (p := 300) (q := 1000000) (by omega) (by omega) (by omega) (by omega)
      have m2 := mulb (a := (τ.1 32 p).toInt) (b := pd.toInt) (p := 300) (q := 1000000) (by omega) (by omega) (by omega) (by omega)
      refine z_aload_n (pc := 28) dX11_depthOf_28 rfl ?_
      refine z_getR (pc := 29) (t := 41) dX11_depthOf_29 fk_X11_51 rfl (by decide) (by decide) (by decide) rfl ?_
      refine z_iload (pc := 32) dX11_depthOf_32 rfl ?_
      refine z_aload_n (pc := 34) dX11_depthOf_34 rfl ?_
      refine z_getR (pc := 35) (t := 31) dX11_depthOf_35 fk_X11_7 rfl (by decide) (by decide) (by decide) rfl ?_
      refine z_iload (pc := 38) dX11_depthOf_38 rfl ?_
      refine z_ialdN (pc := 40) p dX11_depthOf_40 rfl (by decide) hp (by show _ < 40; omega) ?_
      refine z_i2lT (pc := 41) dX11_depthOf_41 rfl (fun v41 e41 => ?_)
      refine z_lload (pc := 42) dX11_depthOf_42 rfl ?_
      refine z_lmulT (pc := 44) dX11_depthOf_44 rfl rfl (by rw [e41]; omega) (by rw [e41]; omega) (fun v44 e44 => ?_)
      refine z_lload_n (pc := 45) dX11_depthOf_45 rfl ?_
      refine z_lsubT (pc := 46) dX11_depthOf_46 rfl rfl (by rw [e44, e41]; omega) (by rw [e44, e41]; omega) (fun v46 e46 => ?_)
      refine z_lastN (pc := 47) (prs p pt).length dX11_depthOf_47 rfl (by decide) hn (by show _ < 40; omega) ?_
      refine z_aload_n (pc := 48) dX11_depthOf_48 rfl ?_
      refine z_getR (pc := 49) (t := 42) dX11_depthOf_49 fk_X11_54 rfl (by decide) (by decide) (by decide) rfl ?_
      refine z_iload (pc := 52) dX11_depthOf_52 rfl ?_
      refine z_aload_n (pc := 54) dX11_depthOf_54 rfl ?_
      refine z_getR (pc := 55) (t := 32) dX11_depthOf_55 fk_X11_13 rfl (by decide) (by decide) (by decide) rfl ?_
      refine z_iload (pc := 58) dX11_depthOf_58 rfl ?_
      refine z_ialdN (pc := 60) p dX11_depthOf_60 rfl (by decide) hp (by show _ < 40; omega) ?_
      refine z_i2lT (pc := 61) dX11_depthOf_61 rfl (fun v61 e61 => ?_)
      refine z_lload (pc := 62) dX11_depthOf_62 rfl ?_
      refine z_lmulT (pc := 64) dX11_depthOf_64 rfl rfl (by rw [e61]; show _ ≤ (τ.1 32 p).toInt * _; omega) (by rw [e61]; show (τ.1 32 p).toInt * _ < _; omega) (fun v64 e64 => ?_)
      refine z_lload_n (pc := 65) dX11_depthOf_65 rfl ?_
      refine z_lsubT (pc := 66) dX11_depthOf_66 rfl rfl (by rw [e64, e61]; show _ ≤ (τ.1 32 p).toInt * _ - _; omega) (by rw [e64, e61]; show (τ.1 32 p).toInt * _ - _ < _; omega) (fun v66 e66 => ?_)
      refine z_lastN (pc := 67) (prs p pt).length dX11_depthOf_67 rfl (by decide) hn (by show _ < 40; omega) ?_
      refine z_aload_n (pc := 68) dX11_depthOf_68 rfl ?_
      refine z_getR (pc := 69) (t := 43) dX11_depthOf_69 fk_X11_57 rfl (by decide) (by decide) (by decide) rfl ?_
      refine z_iload (pc := 72) dX11_depthOf_72 rfl ?_
      refine z_aload_n (pc := 74) dX11_depthOf_74 rfl ?_
      refine z_iload (pc := 75) dX11_depthOf_75 rfl ?_
      refine z_iv1 (pc := 77) dX11_depthOf_77 kv_X11_166 rfl (by decide) (by decide) rfl rfl ?_
      have hQ2 := rmQ_Fr hQt (FrQ_uJ (FrQ_uJ FrQ_rf (o := 41) (k := (prs p pt).length) (v := v46) (by omega) (by omega)) (o := 42) (k := (prs p pt).length) (v := v66) (by omega) (by omega))
      have hp2 := hQ2.2.1.2 p (by omega)
      refine c_mall (p := p) (by omega) hp hQ2.2.2.2.2 (by rw [hp2.2.2.1]; omega) (by rw [hp2.2.2.1]; omega) (fun rv erv => ?_)
      rw [bgs_off _ _ hQ2.2.2.2.1]
      rw [hp2.2.2.1, hp2.2.2.2.1] at erv
      change rv.toInt = w2 pt p at erv
      have hw := w2_rng pt p
      refine z_iastN (pc := 80) (prs p pt).length dX11_depthOf_80 rfl (by decide) hn (by show _ < 40; omega) ?_
      refine z_iload (pc := 81) dX11_depthOf_81 rfl ?_
      refine z_aload_n (pc := 83) dX11_depthOf_83 rfl ?_
      refine z_getR (pc := 84) (t := 43) dX11_depthOf_84 fk_X11_57 rfl (by decide) (by decide) (by decide) rfl ?_
      refine z_iload (pc := 87) dX11_depthOf_87 rfl ?_
      refine z_ialdN (pc := 89) (prs p pt).length dX11_depthOf_89 rfl (by decide) hn (by show _ < 40; omega) ?_
      rw [uI_eq]
      refine z_iaddT (pc := 90) dX11_depthOf_90 rfl rfl (by omega) (by omega) (fun v90 e90 => ?_)
      refine z_istore (pc := 91) dX11_depthOf_91 rfl rfl (by dsimp only [setI, setL, List.set]) ?_
      refine z_iincT (pc := 93) dX11_depthOf_93 rfl rfl (by decide) (by decide) (by omega) (by omega) rfl rfl (fun v => by dsimp only [setI, setL, List.set]) (fun v93 e93 => ?_)
      refine z_iincT (pc := 96) dX11_depthOf_96 rfl rfl (by decide) (by decide) (by omega) (by omega) rfl rfl (fun v => by dsimp only [setI, setL, List.set]) (fun v96 e96 => ?_)
      refine z_goto (pc := 99) (tgt := 9) dX11_depthOf_99 rfl ?_
      have hV' : okVM (uI (uJ (uJ τ 41 (prs p pt).length v46) 42 (prs p pt).length v66) 43 (prs p pt).length rv) (prs (p + 1) pt) (vAt pt x y dd) (w2 pt) := by
        intro k r hr
        rw [hps] at hr
        rcases Nat.lt_or_ge k (prs p pt).length with h9 | h9
        · rw [List.getElem?_append_left h9] at hr
          have := hV k r hr
          simp (disch := omega) only [uJ_row, uJ_1, uJ_nk, uJ_no, uJ_eq, uI_row, uI_2, uI_nk, uI_no, uI_eq]
          exact this
        · have hl9 := (List.getElem?_eq_some_iff.mp hr).1
          rw [List.length_append] at hl9
          simp only [List.length_cons, List.length_nil] at hl9
          have e9 : k = (prs p pt).length := by omega
          subst e9
          rw [List.getElem?_append_right (Nat.le_refl _), Nat.sub_self] at hr
          simp at hr
          subst hr
          simp (disch := omega) only [uJ_row, uJ_1, uJ_nk, uJ_no, uJ_eq, uI_row, uI_2, uI_nk, uI_no, uI_eq]
          refine ⟨?_, ?_, erv⟩
          · rw [e46, e44, e41, ex1, ex, ed]; rfl
          · rw [e66, e64, e61, ← ey, ← ed]; show (τ.1 32 p).toInt * _ - _ = _; rw [ey1]; rfl
      exact ih (p + 1) v93 v90 v96 _ (by omega) (by omega) (by omega) (by rw [hps, List.length_append]; simp only [List.length_cons, List.length_nil]; omega) (by rw [hps, lsum_app, lsum_one]; omega) hV' (eqX_uI (eqX_uJ (eqX_uJ hE (by omega) (by omega)) (by omega) (by omega)) (by omega) (by omega))

theorem c_X11_depthOf {l : Launch} {G : Gx} {d : Nat} {σ : Sg} {Q : Option Value → Sg → Prop} {n : Nat} {pt : Nat → Pt} {x y dd : Int} {px py pd : Int64} (hQ : rmQ σ n pt) (ex : px.toInt = x) (ey : py.toInt = y) (ed : pd.toInt = dd) (bx : -500000000 ≤ x ∧ x ≤ 500000000) (by' : -500000000 ≤ y ∧ y ≤ 500000000) (bd : 0 ≤ dd ∧ dd ≤ 1000000) (h : ∀ (r : Int32) (τ : Sg), r.toInt = dep (prs n pt) (vAt pt x y dd) (w2 pt) → eqX 41 43 σ τ → Q (some (.int r)) τ)  : Z l G M_X11_depthOf (d + 4) 0 [some (.ref 1), some (.long px), none, some (.long py), none, some (.long pd), none] [] σ Q := by
  refine z_sub (L' := [some (.ref 1), some (.long px), none, some (.long py), none, some (.long pd), none, none, none, none, none, none, none, none, none, none, none]) ⟨rfl, rfl, rfl, rfl, trivial⟩ ?_
  refine z_iconst (pc := 0) (v := 0) dX11_depthOf_0 (by decide) ?_
  refine z_istore (pc := 1) dX11_depthOf_1 rfl rfl (by dsimp only [setI, setL, List.set]) ?_
  refine z_iconst (pc := 3) (v := 0) dX11_depthOf_3 (by decide) ?_
  refine z_istore (pc := 4) dX11_depthOf_4 rfl rfl (by dsimp only [setI, setL, List.set]) ?_
  refine z_iconst (pc := 6) (v := 0) dX11_depthOf_6 (by decide) ?_
  refine z_istore (pc := 7) dX11_depthOf_7 rfl rfl (by dsimp only [setI, setL, List.set]) ?_
  exact c_mdep_p hQ ex ey ed bx by' bd h (n + 1) 0 0 0 0 σ (by decide) (by omega) (by omega) rfl rfl (fun j i hj => by simp [prs] at hj) eqX_rf

theorem c_X11_depth {l : Launch} {G : Gx} {d : Nat} {σ : Sg} {Q : Option Value → Sg → Prop} {a : Ab} {x1 x2 x3 : Int32} (hr : rM σ a) (hk : abOk a) (h : ∀ (r : Int32) (τ : Sg), r.toInt = sDepth a x1 x2 x3 → rM τ a → eqC σ τ → Q (some (.int r)) τ) : Z l G M_X11_depth (d + 5) 0 [some (.ref 1), some (.int x1), some (.int x2), some (.int x3)] [] σ Q := by
  refine z_sub (L' := [some (.ref 1), some (.int x1), some (.int x2), some (.int x3)]) ⟨rfl, rfl, rfl, rfl, trivial⟩ ?_
  refine z_iload_n (pc := 0) dX11_depth_0 rfl ?_
  refine z_i2lT (pc := 1) dX11_depth_1 rfl (fun v1 e1 => ?_)
  refine z_ldc2 (pc := 2) dX11_depth_2 kc_X11_177 ?_
  refine z_ldc2 (pc := 5) dX11_depth_5 kc_X11_179 ?_
  refine z_is3 (pc := 8) dX11_depth_8 ks_X11_81 rfl rfl ?_
  refine c_X11_in (cl := -1000000) (cm := 1000000) (by first | assumption | rfl) (by decide) (by decide) (fun q8 => ?_) (fun q8 => ?_)
  · skip
    refine z_if_eq (pc := 11) (tgt := 40) dX11_depth_11 rfl (fun hc => absurd hc (by decide)) (fun _ => ?_)
    refine z_iload_n (pc := 14) dX11_depth_14 rfl ?_
    refine z_i2lT (pc := 15) dX11_depth_15 rfl (fun v15 e15 => ?_)
    refine z_ldc2 (pc := 16) dX11_depth_16 kc_X11_177 ?_
    refine z_ldc2 (pc := 19) dX11_depth_19 kc_X11_179 ?_
    refine z_is3 (pc := 22) dX11_depth_22 ks_X11_81 rfl rfl ?_
    refine c_X11_in (cl := -1000000) (cm := 1000000) (by first | assumption | rfl) (by decide) (by decide) (fun q22 => ?_) (fun q22 => ?_)
    · skip
      refine z_if_eq (pc := 25) (tgt := 40) dX11_depth_25 rfl (fun hc => absurd hc (by decide)) (fun _ => ?_)
      refine z_iload_n (pc := 28) dX11_depth_28 rfl ?_
      refine z_i2lT (pc := 29) dX11_depth_29 rfl (fun v29 e29 => ?_)
      refine z_lconst (pc := 30) (v := 1) dX11_depth_30 (by decide) ?_
      refine z_ldc2 (pc := 31) dX11_depth_31 kc_X11_238 ?_
      refine z_is3 (pc := 34) dX11_depth_34 ks_X11_81 rfl rfl ?_
      refine c_X11_in (cl := 1) (cm := 1000) (by first | assumption | rfl) (by decide) (by decide) (fun q34 => ?_) (fun q34 => ?_)
      · skip
        refine z_if_ne (pc := 37) (tgt := 43) dX11_depth_37 rfl (fun _ => ?_) (fun hc => absurd hc (by decide))
        refine z_aload_n (pc := 43) dX11_depth_43 rfl ?_
        refine z_iload_n (pc := 44) dX11_depth_44 rfl ?_
        refine z_i2lT (pc := 45) dX11_depth_45 rfl (fun v45 e45 => ?_)
        refine z_iload_n (pc := 46) dX11_depth_46 rfl ?_
        refine z_i2lT (pc := 47) dX11_depth_47 rfl (fun v47 e47 => ?_)
        refine z_iload_n (pc := 48) dX11_depth_48 rfl ?_
        refine z_i2lT (pc := 49) dX11_depth_49 rfl (fun v49 e49 => ?_)
        refine z_iv3 (pc := 50) dX11_depth_50 kv_X11_240 rfl (by decide) (by decide) rfl rfl ?_
        refine c_X11_depthOf (x := x1.toInt) (y := x2.toInt) (dd := x3.toInt) (rmQ_of hr hk) (by assumption) (by assumption) (by assumption) (by omega) (by omega) (by omega) (fun rd τ erd hE => ?_)
        have hF := FrQ_X hE (by omega) (by omega)
        refine z_iret (pc := 53) dX11_depth_53 rfl ?_
        exact h _ _ (by rw [show sDepth a x1 x2 x3 = _ from if_neg (by omega)]; exact erd) (rM_FrQ hr hF) (FrQ_C hF)
      · skip
        refine z_if_ne (pc := 37) (tgt := 43) dX11_depth_37 rfl (fun hc => absurd hc (by decide)) (fun _ => ?_)
        refine z_ldc (pc := 40) dX11_depth_40 kc_X11_91 ?_
        refine z_iret (pc := 42) dX11_depth_42 rfl ?_
        exact h _ _ (if_pos (by omega) : sDepth a x1 x2 x3 = _).symm hr eqC_rf
    · skip
      refine z_if_eq (pc := 25) (tgt := 40) dX11_depth_25 rfl (fun _ => ?_) (fun hc => absurd hc (by decide))
      refine z_ldc (pc := 40) dX11_depth_40 kc_X11_91 ?_
      refine z_iret (pc := 42) dX11_depth_42 rfl ?_
      exact h _ _ (if_pos (by omega) : sDepth a x1 x2 x3 = _).symm hr eqC_rf
  · skip
    refine z_if_eq (pc := 11) (tgt := 40) dX11_depth_11 rfl (fun _ => ?_) (fun hc => absurd hc (by decide))
    refine z_ldc (pc := 40) dX11_depth_40 kc_X11_91 ?_
    refine z_iret (pc := 42) dX11_depth_42 rfl ?_
    exact h _ _ (if_pos (by omega) : sDepth a x1 x2 x3 = _).symm hr eqC_rf
