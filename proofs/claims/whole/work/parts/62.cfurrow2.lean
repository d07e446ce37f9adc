def sFurrow (a : Ab) (k : Int32) : Int × Ab :=
  if k.toInt < 0 then (-1000001, a)
  else if (prs a.1.1 a.1.2).length = 0 then (-1000002, a)
  else if nFur a.1.1 a.1.2 ≤ k.toInt then (0, a)
  else (1, lnTo a a.2.2.1 (kFur a.1.1 a.1.2 k.toInt.toNat))
def sFurrows (a : Ab) : Int := if (prs a.1.1 a.1.2).length = 0 then -1000002 else nFur a.1.1 a.1.2
theorem sFurrow_4 {a : Ab} {x : Int32} {k : Nat} (hx : x.toInt = (k : Int)) (h1 : (prs a.1.1 a.1.2).length ≠ 0) (h2 : ¬ nFur a.1.1 a.1.2 ≤ x.toInt) : sFurrow a x = (1, lnTo a a.2.2.1 (kFur a.1.1 a.1.2 k)) := by
  have e : x.toInt.toNat = k := by omega
  unfold sFurrow
  rw [e, if_neg (by omega), if_neg h1, if_neg h2]
def sMost (a : Ab) (w : Int32) (r : Int) : Prop := if w.toInt = 1 then MaxOn (prs a.1.1 a.1.2) a.1.2 r else if w.toInt = 0 then MinOn (prs a.1.1 a.1.2) a.1.2 r else r = -1000001

theorem c_X10_furrow {l : Launch} {G : Gx} {d : Nat} {σ : Sg} {Q : Option Value → Sg → Prop} {a : Ab} {x1 : Int32} (hr : rC σ a) (hk : abOk a) (h : ∀ (r : Int32) (τ : Sg), r.toInt = (sFurrow a x1).1 → rC τ (sFurrow a x1).2 → eqM σ τ → Q (some (.int r)) τ) : Z l G M_X10_furrow (d + 6) 0 [some (.ref 0), some (.int x1)] [] σ Q := by
  refine z_sub (L' := [some (.ref 0), some (.int x1)]) ⟨rfl, rfl, trivial⟩ ?_
  refine z_iload_n (pc := 0) dX10_furrow_0 rfl ?_
  refine zq_if_ge (pc := 1) (tgt := 7) dX10_furrow_1 rfl rfl (fun h1 => ?_) (fun h1 => ?_)
  · skip
    refine z_aload_n (pc := 7) dX10_furrow_7 rfl ?_
    refine z_iv0 (pc := 8) dX10_furrow_8 kv_X10_165 rfl (by decide) (by decide) rfl rfl ?_
    refine c_X10_gathered hk.1 hr.1 hr.2.2.2.2.2.2.1.1 (fun τ hS hkn hE => ?_)
    have hrt := rC_gath hr hE hS
    have hSn := hS.1
    refine z_getI (pc := 11) dX10_furrow_11 fk_X10_169 rfl (by decide) (by decide) (by decide) ?_
    refine zq_if_ne (pc := 14) (tgt := 20) dX10_furrow_14 rfl rfl (fun h14 => ?_) (fun h14 => ?_)
    · skip
      refine z_iload_n (pc := 20) dX10_furrow_20 rfl ?_
      refine z_aload_n (pc := 21) dX10_furrow_21 rfl ?_
      refine z_iv0 (pc := 22) dX10_furrow_22 kv_X10_253 rfl (by decide) (by decide) rfl rfl ?_
      have hca := hrt.2.2.2.2.2.2.1
      refine c_X10_joined hk.1 hrt.1 hk.2.1 hca.1 hca.2.1 (fun υ hl hl7 hst hkk uE => ?_)
      have hSu : okStand υ a.1.1 a.1.2 := hst (hkk hkn)
      have hru : rC υ a := rC_join hrt uE hst (fun _ => hl)
      refine z_aload_n (pc := 25) dX10_furrow_25 rfl ?_
      refine z_getR (pc := 26) (t := 11) dX10_furrow_26 fk_X10_52 rfl (by decide) (by decide) (by decide) rfl ?_
      refine z_iv1 (pc := 29) dX10_furrow_29 kv_X10_257 rfl (by decide) (by decide) rfl rfl ?_
      refine c_X5_furrowCount hSu hk.2.1 hk.1 hl (fun r ω er hF hlw w7 wE => ?_)
      have hSw : okStand ω a.1.1 a.1.2 := okStand_cong (c := True) (fun o h1 h3 => wE o (by omega)) (fun _ => hSu) trivial
      have hrw : rC ω a := rC_join hru (eqX_wide wE (by omega) (by omega)) (fun _ => hSw) (fun _ => hlw)
      have eMw : eqM σ ω := eqM_tr (eqX_M hE (by omega) (by omega)) (eqM_tr (eqX_M uE (by omega) (by omega)) (eqX_M wE (by omega) (by omega)))
      refine zq_icmp_lt (pc := 32) (tgt := 37) dX10_furrow_32 rfl rfl rfl (fun h32 => ?_) (fun h32 => ?_)
      · skip
        refine z_aload_n (pc := 37) dX10_furrow_37 rfl ?_
        refine z_getR (pc := 38) (t := 18) dX10_furrow_38 fk_X10_59 rfl (by decide) (by decide) (by decide) rfl ?_
        refine z_aload_n (pc := 41) dX10_furrow_41 rfl ?_
        refine z_getR (pc := 42) (t := 11) dX10_furrow_42 fk_X10_52 rfl (by decide) (by decide) (by decide) rfl ?_
        refine z_iload_n (pc := 45) dX10_furrow_45 rfl ?_
        refine z_aload_n (pc := 46) dX10_furrow_46 rfl ?_
        refine z_getR (pc := 47) (t := 10) dX10_furrow_47 fk_X10_45 rfl (by decide) (by decide) (by decide) rfl ?_
        refine z_iv3 (pc := 50) dX10_furrow_50 kv_X10_261 rfl (by decide) (by decide) rfl rfl ?_
        have hkn' : x1.toInt = (x1.toInt.toNat : Int) := by omega
        refine c_X5_giveFurrow (k := x1.toInt.toNat) hSw hk.2.1 hk.1 hlw.1 hF (by omega) hkn' (by omega) (fun χ hL hrow h2 => ?_)
        have e : sFurrow a x1 = _ := sFurrow_4 hkn' (by omega) (by omega)
        refine z_iconst (pc := 53) (v := 1) dX10_furrow_53 (by decide) ?_
        refine z_iret (pc := 54) dX10_furrow_54 rfl ?_
        exact h _ _ (by rw [e]; rfl) (by rw [e]; exact rC_ln hrw hL (by rw [hrow 0 (by omega)]) (by rw [hrow 0 (by omega)]; exact hrw.2.2.1) (fun o _ h10 => hrow o h10) h2) (eqM_tr eMw (eqM_row hrow h2))
      · skip
        refine z_iconst (pc := 35) (v := 0) dX10_furrow_35 (by decide) ?_
        refine z_iret (pc := 36) dX10_furrow_36 rfl ?_
        have e : sFurrow a x1 = _ := (if_neg (by omega)).trans ((if_neg (by omega)).trans (if_pos (by omega)))
        exact h _ _ (by rw [e]; rfl) (by rw [e]; exact hrw) eMw
    · skip
      refine z_ldc (pc := 17) dX10_furrow_17 kc_X10_213 ?_
      refine z_iret (pc := 19) dX10_furrow_19 rfl ?_
      have e : sFurrow a x1 = _ := (if_neg (by omega)).trans (if_pos (by omega))
      exact h _ _ (by rw [e]; rfl) (by rw [e]; exact hrt) (eqX_M hE (by omega) (by omega))
  · skip
    refine z_ldc (pc := 4) dX10_furrow_4 kc_X10_92 ?_
    refine z_iret (pc := 6) dX10_furrow_6 rfl ?_
    have e : sFurrow a x1 = _ := if_pos (by omega)
    exact h _ _ (by rw [e]; rfl) (by rw [e]; exact hr) eqM_rf

theorem c_X10_furrows {l : Launch} {G : Gx} {d : Nat} {σ : Sg} {Q : Option Value → Sg → Prop} {a : Ab} (hr : rC σ a) (hk : abOk a) (h : ∀ (r : Int32) (τ : Sg), r.toInt = sFurrows a → rC τ a → eqM σ τ → Q (some (.int r)) τ) : Z l G M_X10_furrows (d + 6) 0 [some (.ref 0)] [] σ Q := by
  refine z_sub (L' := [some (.ref 0)]) ⟨rfl, trivial⟩ ?_
  refine z_aload_n (pc := 0) dX10_furrows_0 rfl ?_
  refine z_iv0 (pc := 1) dX10_furrows_1 kv_X10_165 rfl (by decide) (by decide) rfl rfl ?_
  refine c_X10_gathered hk.1 hr.1 hr.2.2.2.2.2.2.1.1 (fun τ hS hkn hE => ?_)
  have hrt := rC_gath hr hE hS
  have hSn := hS.1
  refine z_getI (pc := 4) dX10_furrows_4 fk_X10_169 rfl (by decide) (by decide) (by decide) ?_
  refine zq_if_ne (pc := 7) (tgt := 13) dX10_furrows_7 rfl rfl (fun h7 => ?_) (fun h7 => ?_)
  · skip
    refine z_aload_n (pc := 13) dX10_furrows_13 rfl ?_
    refine z_iv0 (pc := 14) dX10_furrows_14 kv_X10_253 rfl (by decide) (by decide) rfl rfl ?_
    have hca := hrt.2.2.2.2.2.2.1
    refine c_X10_joined hk.1 hrt.1 hk.2.1 hca.1 hca.2.1 (fun υ hl hl7 hst hkk uE => ?_)
    have hSu : okStand υ a.1.1 a.1.2 := hst (hkk hkn)
    have hru : rC υ a := rC_join hrt uE hst (fun _ => hl)
    refine z_aload_n (pc := 17) dX10_furrows_17 rfl ?_
    refine z_getR (pc := 18) (t := 11) dX10_furrows_18 fk_X10_52 rfl (by decide) (by decide) (by decide) rfl ?_
    refine z_iv1 (pc := 21) dX10_furrows_21 kv_X10_257 rfl (by decide) (by decide) rfl rfl ?_
    refine c_X5_furrowCount hSu hk.2.1 hk.1 hl (fun r ω er hF hlw w7 wE => ?_)
    have hSw : okStand ω a.1.1 a.1.2 := okStand_cong (c := True) (fun o h1 h3 => wE o (by omega)) (fun _ => hSu) trivial
    have hrw : rC ω a := rC_join hru (eqX_wide wE (by omega) (by omega)) (fun _ => hSw) (fun _ => hlw)
    have eMw : eqM σ ω := eqM_tr (eqX_M hE (by omega) (by omega)) (eqM_tr (eqX_M uE (by omega) (by omega)) (eqX_M wE (by omega) (by omega)))
    refine z_iret (pc := 24) dX10_furrows_24 rfl ?_
    exact h _ _ (er.trans (if_neg (by omega) : sFurrows a = _).symm) hrw eMw
  · skip
    refine z_ldc (pc := 10) dX10_furrows_10 kc_X10_213 ?_
    refine z_iret (pc := 12) dX10_furrows_12 rfl ?_
    exact h _ _ (if_pos (by omega) : sFurrows a = _).symm hrt (eqX_M hE (by omega) (by omega))

theorem c_X10_most {l : Launch} {G : Gx} {d : Nat} {σ : Sg} {Q : Option Value → Sg → Prop} {a : Ab} {x1 : Int32} (hr : rC σ a) (hk : abOk a) (h : ∀ (r : Int32) (τ : Sg), sMost a x1 r.toInt → rC τ a → eqM σ τ → Q (some (.int r)) τ) : Z l G M_X10_most (d + 6) 0 [some (.ref 0), some (.int x1)] [] σ Q := by
  refine z_sub (L' := [some (.ref 0), some (.int x1)]) ⟨rfl, rfl, trivial⟩ ?_
  refine z_iload_n (pc := 0) dX10_most_0 rfl ?_
  refine z_iconst (pc := 1) (v := 2) dX10_most_1 (by decide) ?_
  refine z_is2 (pc := 2) dX10_most_2 ks_X10_88 rfl rfl ?_
  refine c_X10_isBelow (b := 2) (fun q2 => ?_) (fun q2 => ?_)
  · skip
    refine z_if_ne (pc := 5) (tgt := 11) dX10_most_5 rfl (fun _ => ?_) (fun hc => absurd hc (by decide))
    refine z_iload_n (pc := 11) dX10_most_11 rfl ?_
    refine z_iconst (pc := 12) (v := 1) dX10_most_12 (by decide) ?_
    refine zq_icmp_ne (pc := 13) (cy := 1) (tgt := 26) dX10_most_13 rfl rfl (by decide) (fun h13 => ?_) (fun h13 => ?_)
    · skip
      refine z_aload_n (pc := 26) dX10_most_26 rfl ?_
      refine z_iv0 (pc := 27) dX10_most_27 kv_X10_253 rfl (by decide) (by decide) rfl rfl ?_
      have hca := hr.2.2.2.2.2.2.1
      refine c_X10_joined hk.1 hr.1 hk.2.1 hca.1 hca.2.1 (fun υ hl hl7 hst hkk uE => ?_)
      have hru : rC υ a := rC_join hr uE hst (fun _ => hl)
      refine z_getI (pc := 30) dX10_most_30 fk_X10_290 rfl (by decide) (by decide) (by decide) ?_
      refine z_iret (pc := 33) dX10_most_33 rfl ?_
      have h2 : (2 : Int32).toInt = 2 := rfl
      first | exact h _ _ (by unfold sMost; rw [if_pos (by omega)]; exact hl.1.2.2.1) hru (eqX_M uE (by omega) (by omega)) | exact h _ _ (by unfold sMost; rw [if_neg (by omega), if_pos (by omega)]; exact hl.1.2.2.2) hru (eqX_M uE (by omega) (by omega))
    · skip
      refine z_aload_n (pc := 16) dX10_most_16 rfl ?_
      refine z_iv0 (pc := 17) dX10_most_17 kv_X10_253 rfl (by decide) (by decide) rfl rfl ?_
      have hca := hr.2.2.2.2.2.2.1
      refine c_X10_joined hk.1 hr.1 hk.2.1 hca.1 hca.2.1 (fun υ hl hl7 hst hkk uE => ?_)
      have hru : rC υ a := rC_join hr uE hst (fun _ => hl)
      refine z_getI (pc := 20) dX10_most_20 fk_X10_287 rfl (by decide) (by decide) (by decide) ?_
      refine z_goto (pc := 23) (tgt := 33) dX10_most_23 rfl ?_
      refine z_iret (pc := 33) dX10_most_33 rfl ?_
      have h2 : (2 : Int32).toInt = 2 := rfl
      first | exact h _ _ (by unfold sMost; rw [if_pos (by omega)]; exact hl.1.2.2.1) hru (eqX_M uE (by omega) (by omega)) | exact h _ _ (by unfold sMost; rw [if_neg (by omega), if_pos (by omega)]; exact hl.1.2.2.2) hru (eqX_M uE (by omega) (by omega))
  · skip
    refine z_if_ne (pc := 5) (tgt := 11) dX10_most_5 rfl (fun hc => absurd hc (by decide)) (fun _ => ?_)
    refine z_ldc (pc := 8) dX10_most_8 kc_X10_92 ?_
    refine z_iret (pc := 10) dX10_most_10 rfl ?_
    have h2 : (2 : Int32).toInt = 2 := rfl
    exact h _ _ (by unfold sMost; rw [if_neg (by omega), if_neg (by omega)]; rfl) hr eqM_rf
