/-! the model's looks at pairs -/
theorem c_mat {l : Launch} {G : Gx} {d : Nat} {σ : Sg} {Q : Option Value → Sg → Prop} {n i : Nat} {pt : Nat → Pt} {t : Int × Int × Int} {x1 : Int32} (hQ : rmQ σ n pt) (hL : isLnM σ t) (hb : t.1.natAbs ≤ 1000000 ∧ t.2.1.natAbs ≤ 1000000 ∧ t.2.2.natAbs ≤ 1000000) (hi : i < n) (hx : x1.toInt = (i : Int)) (h : ∀ r : Int64, r.toInt = lv t (pt i) → Q (some (.long r)) σ) : Z l G M_X11_at d 0 [some (.ref 1), some (.int x1)] [] σ Q := by
  have hpi := hQ.2.1.2 i hi
  have hn := hQ.1
  refine c_X11_at (p := i) (by omega) hx (rmQ_pt hQ hi) (by rw [hL.1]; omega) (by rw [hL.2.1]; omega) (by rw [hL.2.2]; omega) (fun ra era => h ra ?_)
  rw [hL.1, hL.2.1, hL.2.2, hpi.1, hpi.2.1] at era
  exact era
theorem c_mapart {l : Launch} {G : Gx} {d : Nat} {σ : Sg} {Q : Option Value → Sg → Prop} {n p q : Nat} {pt : Nat → Pt} {x1 x2 : Int32} (hQ : rmQ σ n pt) (hp : p < n) (hq : q < n) (hx : x1.toInt = (p : Int)) (hy : x2.toInt = (q : Int)) (ht : apt (pt p) (pt q) = true → Q (some (.int 1)) σ) (hf : apt (pt p) (pt q) = false → Q (some (.int 0)) σ) : Z l G M_X11_isApart d 0 [some (.ref 1), some (.int x1), some (.int x2)] [] σ Q := by
  have h1 := hQ.2.1.2 p hp
  have h2 := hQ.2.1.2 q hq
  have hn := hQ.1
  refine c_X11_isApart (p := p) (q := q) (by omega) hx (by omega) hy (fun z => ht ?_) (fun z => hf ?_)
  · rw [h1.1, h1.2.1, h2.1, h2.2.1] at z; exact apt_iff.mpr z
  · rw [h1.1, h1.2.1, h2.1, h2.2.1] at z; exact apt_no.mpr z
theorem lnO_ab {n p q : Nat} {pt : Nat → Pt} (hP : ∀ i, i < n → ptOk (pt i)) (hp : p < n) (hq : q < n) (ha : apt (pt p) (pt q) = true) : (lnO pt (p, q)).1.natAbs ≤ 180000 ∧ (lnO pt (p, q)).2.1.natAbs ≤ 180000 ∧ (lnO pt (p, q)).2.2.natAbs ≤ 180000 := by
  have k1 := hP p hp
  have k2 := hP q hq
  unfold ptOk at k1 k2
  have := lnT_abs (x1 := (pt p).1.toInt) (y1 := (pt p).2.1.toInt) (x2 := (pt q).1.toInt) (y2 := (pt q).2.1.toInt) (by omega) (by omega) (by omega) (by omega) (apt_iff.mp ha)
  exact this
theorem c_mlook {l : Launch} {G : Gx} {d : Nat} {σ : Sg} {Q : Option Value → Sg → Prop} {n p q : Nat} {pt : Nat → Pt} {x1 x2 : Int32} (hQ : rmQ σ n pt) (hp : p < n) (hq : q < n) (hx : x1.toInt = (p : Int)) (hy : x2.toInt = (q : Int)) (ha : apt (pt p) (pt q) = true) (h : ∀ τ, isLnM τ (lnO pt (p, q)) → FrQ σ τ → τ.1 = σ.1 → (∀ o, o ≠ 1 → τ.2 o = σ.2 o) → (∀ k, k ≠ 23 → k ≠ 24 → k ≠ 25 → τ.2 1 k = σ.2 1 k) → Q none τ) : Z l G M_X11_look (d + 1) 0 [some (.ref 1), some (.int x1), some (.int x2)] [] σ Q := by
  have h1 := hQ.2.1.2 p hp
  have h2 := hQ.2.1.2 q hq
  have hn := hQ.1
  refine c_X11_look (p := p) (q := q) (by omega) hx (by omega) hy (rmQ_pt hQ hp) (rmQ_pt hQ hq) (by rw [h1.1, h1.2.1, h2.1, h2.2.1]; exact apt_iff.mp ha) (fun τ hL hF t1 t2 t3 => h τ ?_ hF t1 t2 t3)
  rw [h1.1, h1.2.1, h2.1, h2.2.1] at hL
  exact hL
/-- the model's reading of a first pair -/
theorem mfst {n p q : Nat} {pt : Nat → Pt} (hp : p ∈ prs n pt) (hq : q ∈ prs n pt) (hlt : p < q) (ha : apt (pt p) (pt q) = true) : fstP (prs n pt) pt p q = true ↔ ∀ k m, k ≤ p → k < m → k ∈ prs n pt → m ∈ prs n pt → crs (pt p) (pt q) (pt k) = 0 → crs (pt p) (pt q) (pt m) = 0 → (k < p ∨ m < q) → apt (pt k) (pt m) = false := by
  constructor
  · intro h k m hk hkm hkP hmP ck cm hc
    cases hak : apt (pt k) (pt m) with
    | false => rfl
    | true =>
      exfalso
      rcases Nat.lt_or_ge k p with h1 | h1
      · have := List.all_eq_true.mp h k hkP
        simp only [Bool.not_eq_true', Bool.and_eq_false_imp, Bool.or_eq_true, Bool.and_eq_true, decide_eq_false_iff_not] at this
        exact this (Or.inl (Nat.ble_eq_true_of_le h1)) ck
      · have e : k = p := by omega
        subst e
        have := List.all_eq_true.mp h m hmP
        simp only [Bool.not_eq_true', Bool.and_eq_false_imp, Bool.or_eq_true, Bool.and_eq_true, decide_eq_false_iff_not] at this
        exact this (Or.inr ⟨⟨Nat.ble_eq_true_of_le hkm, Nat.ble_eq_true_of_le (by omega)⟩, hak⟩) cm
  · intro h
    apply List.all_eq_true.mpr
    intro r hr
    simp only [Bool.not_eq_true', Bool.and_eq_false_imp, Bool.or_eq_true, Bool.and_eq_true, decide_eq_false_iff_not]
    intro hc h0
    rcases hc with hc | ⟨⟨hc1, hc2⟩, hb⟩
    · have h1 : r < p := Nat.le_of_ble_eq_true hc
      have k1 := h r p (by omega) h1 hr hp h0 (crs_self _ _).1 (Or.inl h1)
      have k2 := h r q (by omega) (by omega) hr hq h0 (crs_self _ _).2 (Or.inl h1)
      rw [apt_no] at k1 k2
      rw [apt_iff] at ha
      omega
    · have h1 : p < r := Nat.le_of_ble_eq_true hc1
      have h2 : r < q := Nat.le_of_ble_eq_true hc2
      have := h p r (Nat.le_refl _) h1 hp hr (crs_self _ _).1 h0 (Or.inr h2)
      rw [hb] at this
      cases this

theorem c_misf_in {l : Launch} {G : Gx} {d : Nat} {σ : Sg} {Q : Option Value → Sg → Prop} {n p q k : Nat} {pt : Nat → Pt} {x1 x2 : Int32} {x3 : Int32} (hQ : rmQ σ n pt) (hL : isLnM σ (lnO pt (p, q))) (hp : p ∈ prs n pt) (hq : q ∈ prs n pt) (hlt : p < q) (ha : apt (pt p) (pt q) = true) (hx : x1.toInt = (p : Int)) (hy : x2.toInt = (q : Int)) (hkp : k ≤ p) (hkP : k ∈ prs n pt) (hk0 : crs (pt p) (pt q) (pt k) = 0) (hz : x3.toInt = (k : Int)) (hf : fstP (prs n pt) pt p q = false → Q (some (.int 0)) σ) (hnext : ∀ x4 : Int32, (∀ m, k < m → m ∈ prs n pt → crs (pt p) (pt q) (pt m) = 0 → (k < p ∨ m < q) → apt (pt k) (pt m) = false) → Z l G M_X11_isFirst (d + 1) 96 [some (.ref 1), some (.int x1), some (.int x2), some (.int x3), some (.int x4)] [] σ Q) : ∀ (f m : Nat) (x4 : Int32), x4.toInt = (m : Int) → k < m → m ≤ n → n - m < f → (∀ m', k < m' → m' < m → m' ∈ prs n pt → crs (pt p) (pt q) (pt m') = 0 → (k < p ∨ m' < q) → apt (pt k) (pt m') = false) → Z l G M_X11_isFirst (d + 1) 37 [some (.ref 1), some (.int x1), some (.int x2), some (.int x3), some (.int x4)] [] σ Q := by
  intro f
  induction f with
  | zero => intro m x4 hm hkm hmn hfu hno; omega
  | succ f ih =>
  intro m x4 hm hkm hmn hfu hno
  have hg := hQ.2.1.1
  have hn := hQ.1
  have hpn := (prs_mem.mp hp).1
  have hqn := (prs_mem.mp hq).1
  have hkn := (prs_mem.mp hkP).1
  have hab := lnO_ab hQ.2.2.1 hpn hqn ha
  refine z_iload (pc := 37) dX11_isFirst_37 rfl ?_
  refine z_aload_n (pc := 39) dX11_isFirst_39 rfl ?_
  refine z_getI (pc := 40) dX11_isFirst_40 fk_X11_101 rfl (by decide) (by decide) (by decide) ?_
  refine zq_icmp_ge (pc := 43) (tgt := 96) dX11_isFirst_43 rfl rfl rfl (fun h43 => ?_) (fun h43 => ?_)
  · skip
    exact hnext _ (fun m' h1 h3 h4 h5 => hno m' h1 (by have := (prs_mem.mp h3).1; omega) h3 h4 h5)
  · skip
    refine z_iload_n (pc := 46) dX11_isFirst_46 rfl ?_
    refine z_iload_n (pc := 47) dX11_isFirst_47 rfl ?_
    refine zq_icmp_lt (pc := 48) (tgt := 57) dX11_isFirst_48 rfl rfl rfl (fun h48 => ?_) (fun h48 => ?_)
    · skip
      refine z_aload_n (pc := 57) dX11_isFirst_57 rfl ?_
      refine z_getR (pc := 58) (t := 35) dX11_isFirst_58 fk_X11_22 rfl (by decide) (by decide) (by decide) rfl ?_
      refine z_iload (pc := 61) dX11_isFirst_61 rfl ?_
      refine z_zaldN (pc := 63) m dX11_isFirst_63 rfl (by decide) hm (by show _ < 40; omega) ?_
      refine zq_if_ne (pc := 64) (tgt := 90) dX11_isFirst_64 rfl rfl (fun h64 => ?_) (fun h64 => ?_)
      · skip
        refine z_iincT (pc := 90) dX11_isFirst_90 rfl rfl (by decide) (by decide) (by omega) (by omega) rfl rfl (fun v => by dsimp only [setI, setL, List.set]) (fun v90 e90 => ?_)
        refine z_goto (pc := 93) (tgt := 37) dX11_isFirst_93 rfl ?_
        exact ih (m + 1) v90 (by omega) (by omega) (by omega) (by omega) (fun m' h1 h2 h3 h4 h5 => by
          rcases Nat.lt_or_ge m' m with h9 | h9
          · exact hno m' h1 h9 h3 h4 h5
          · have e9 : m' = m := by omega
            subst e9
            first
            | assumption
            | (exfalso; omega)
            | exact absurd (hl0.mpr h4) (by assumption)
            | exact absurd (mthere_of (hQ.2.1.2 m' (by omega)).2.2.2.2 (by have := (prs_mem.mp h3).2; rw [(hQ.2.1.2 m' (by omega)).2.2.2.2, this]; rfl)) (by rw [maway_of (hQ.2.1.2 m' (by omega)).2.2.2.2 h64]; decide))
      · skip
        refine z_aload_n (pc := 67) dX11_isFirst_67 rfl ?_
        refine z_iload (pc := 68) dX11_isFirst_68 rfl ?_
        refine z_iv1 (pc := 70) dX11_isFirst_70 kv_X11_210 rfl (by decide) (by decide) rfl rfl ?_
        refine c_mat (i := m) hQ hL (by omega) (by omega) hm (fun ra era => ?_)
        have hl0 := lv_0 (z := (p, q)) ha (pt m)
        rw [← era] at hl0
        refine z_lconst (pc := 73) (v := 0) dX11_isFirst_73 (by decide) ?_
        refine zq_lc_ne (pc := 74) (cy := 0) (tgt := 90) dX11_isFirst_74 dX11_isFirst_75 rfl rfl (by decide) (fun h74 => ?_) (fun h74 => ?_)
        · skip
          refine z_iincT (pc := 90) dX11_isFirst_90 rfl rfl (by decide) (by decide) (by omega) (by omega) rfl rfl (fun v => by dsimp only [setI, setL, List.set]) (fun v90 e90 => ?_)
          refine z_goto (pc := 93) (tgt := 37) dX11_isFirst_93 rfl ?_
          exact ih (m + 1) v90 (by omega) (by omega) (by omega) (by omega) (fun m' h1 h2 h3 h4 h5 => by
            rcases Nat.lt_or_ge m' m with h9 | h9
            · exact hno m' h1 h9 h3 h4 h5
            · have e9 : m' = m := by omega
              subst e9
              first
              | assumption
              | (exfalso; omega)
              | exact absurd (hl0.mpr h4) (by assumption)
              | exact absurd (mthere_of (hQ.2.1.2 m' (by omega)).2.2.2.2 (by have := (prs_mem.mp h3).2; rw [(hQ.2.1.2 m' (by omega)).2.2.2.2, this]; rfl)) (by rw [maway_of (hQ.2.1.2 m' (by omega)).2.2.2.2 h64]; decide))
        · skip
          refine z_aload_n (pc := 78) dX11_isFirst_78 rfl ?_
          refine z_iload_n (pc := 79) dX11_isFirst_79 rfl ?_
          refine z_iload (pc := 80) dX11_isFirst_80 rfl ?_
          refine z_iv2 (pc := 82) dX11_isFirst_82 kv_X11_200 rfl (by decide) (by decide) rfl rfl ?_
          refine c_mapart (p := k) (q := m) hQ hkn (by omega) hz hm (fun qa => ?_) (fun qa => ?_)
          · skip
            refine z_if_eq (pc := 85) (tgt := 90) dX11_isFirst_85 rfl (fun hc => absurd hc (by decide)) (fun _ => ?_)
            refine z_iconst (pc := 88) (v := 0) dX11_isFirst_88 (by decide) ?_
            refine z_zret (pc := 89) dX11_isFirst_89 rfl (by decide) ?_
            refine hf ?_
            cases hb : fstP (prs n pt) pt p q with
            | false => rfl
            | true =>
              have := (mfst hp hq hlt ha).mp hb k m hkp hkm hkP (prs_mem.mpr ⟨by omega, mthere_of (hQ.2.1.2 m (by omega)).2.2.2.2 h64⟩) hk0 (hl0.mp (by omega)) (by omega)
              rw [qa] at this
              cases this
          · skip
            refine z_if_eq (pc := 85) (tgt := 90) dX11_isFirst_85 rfl (fun _ => ?_) (fun hc => absurd hc (by decide))
            refine z_iincT (pc := 90) dX11_isFirst_90 rfl rfl (by decide) (by decide) (by omega) (by omega) rfl rfl (fun v => by dsimp only [setI, setL, List.set]) (fun v90 e90 => ?_)
            refine z_goto (pc := 93) (tgt := 37) dX11_isFirst_93 rfl ?_
            exact ih (m + 1) v90 (by omega) (by omega) (by omega) (by omega) (fun m' h1 h2 h3 h4 h5 => by
              rcases Nat.lt_or_ge m' m with h9 | h9
              · exact hno m' h1 h9 h3 h4 h5
              · have e9 : m' = m := by omega
                subst e9
                first
                | assumption
                | (exfalso; omega)
                | exact absurd (hl0.mpr h4) (by assumption)
                | exact absurd (mthere_of (hQ.2.1.2 m' (by omega)).2.2.2.2 (by have := (prs_mem.mp h3).2; rw [(hQ.2.1.2 m' (by omega)).2.2.2.2, this]; rfl)) (by rw [maway_of (hQ.2.1.2 m' (by omega)).2.2.2.2 h64]; decide))
    · skip
      refine z_iload (pc := 51) dX11_isFirst_51 rfl ?_
      refine z_iload_n (pc := 53) dX11_isFirst_53 rfl ?_
      refine zq_icmp_ge (pc := 54) (tgt := 90) dX11_isFirst_54 rfl rfl rfl (fun h54 => ?_) (fun h54 => ?_)
      · skip
        refine z_iincT (pc := 90) dX11_isFirst_90 rfl rfl (by decide) (by decide) (by omega) (by omega) rfl rfl (fun v => by dsimp only [setI, setL, List.set]) (fun v90 e90 => ?_)
        refine z_goto (pc := 93) (tgt := 37) dX11_isFirst_93 rfl ?_
        exact ih (m + 1) v90 (by omega) (by omega) (by omega) (by omega) (fun m' h1 h2 h3 h4 h5 => by
          rcases Nat.lt_or_ge m' m with h9 | h9
          · exact hno m' h1 h9 h3 h4 h5
          · have e9 : m' = m := by omega
            subst e9
            first
            | assumption
            | (exfalso; omega)
            | exact absurd (hl0.mpr h4) (by assumption)
            | exact absurd (mthere_of (hQ.2.1.2 m' (by omega)).2.2.2.2 (by have := (prs_mem.mp h3).2; rw [(hQ.2.1.2 m' (by omega)).2.2.2.2, this]; rfl)) (by rw [maway_of (hQ.2.1.2 m' (by omega)).2.2.2.2 h64]; decide))
      · skip
        refine z_aload_n (pc := 57) dX11_isFirst_57 rfl ?_
        refine z_getR (pc := 58) (t := 35) dX11_isFirst_58 fk_X11_22 rfl (by decide) (by decide) (by decide) rfl ?_
        refine z_iload (pc := 61) dX11_isFirst_61 rfl ?_
        refine z_zaldN (pc := 63) m dX11_isFirst_63 rfl (by decide) hm (by show _ < 40; omega) ?_
        refine zq_if_ne (pc := 64) (tgt := 90) dX11_isFirst_64 rfl rfl (fun h64 => ?_) (fun h64 => ?_)
        · skip
          refine z_iincT (pc := 90) dX11_isFirst_90 rfl rfl (by decide) (by decide) (by omega) (by omega) rfl rfl (fun v => by dsimp only [setI, setL, List.set]) (fun v90 e90 => ?_)
          refine z_goto (pc := 93) (tgt := 37) dX11_isFirst_93 rfl ?_
          exact ih (m + 1) v90 (by omega) (by omega) (by omega) (by omega) (fun m' h1 h2 h3 h4 h5 => by
            rcases Nat.lt_or_ge m' m with h9 | h9
            · exact hno m' h1 h9 h3 h4 h5
            · have e9 : m' = m := by omega
              subst e9
              first
              | assumption
              | (exfalso; omega)
              | exact absurd (hl0.mpr h4) (by assumption)
              | exact absurd (mthere_of (hQ.2.1.2 m' (by omega)).2.2.2.2 (by have := (prs_mem.mp h3).2; rw [(hQ.2.1.2 m' (by omega)).2.2.2.2, this]; rfl)) (by rw [maway_of (hQ.2.1.2 m' (by omega)).2.2.2.2 h64]; decide))
        · skip
          refine z_aload_n (pc := 67) dX11_isFirst_67 rfl ?_
          refine z_iload (pc := 68) dX11_isFirst_68 rfl ?_
          refine z_iv1 (pc := 70) dX11_isFirst_70 kv_X11_210 rfl (by decide) (by decide) rfl rfl ?_
          refine c_mat (i := m) hQ hL (by omega) (by omega) hm (fun ra era => ?_)
          have hl0 := lv_0 (z := (p, q)) ha (pt m)
          rw [← era] at hl0
          refine z_lconst (pc := 73) (v := 0) dX11_isFirst_73 (by decide) ?_
          refine zq_lc_ne (pc := 74) (cy := 0) (tgt := 90) dX11_isFirst_74 dX11_isFirst_75 rfl rfl (by decide) (fun h74 => ?_) (fun h74 => ?_)
          · skip
            refine z_iincT (pc := 90) dX11_isFirst_90 rfl rfl (by decide) (by decide) (by omega) (by omega) rfl rfl (fun v => by dsimp only [setI, setL, List.set]) (fun v90 e90 => ?_)
            refine z_goto (pc := 93) (tgt := 37) dX11_isFirst_93 rfl ?_
            exact ih (m + 1) v90 (by omega) (by omega) (by omega) (by omega) (fun m' h1 h2 h3 h4 h5 => by
              rcases Nat.lt_or_ge m' m with h9 | h9
              · exact hno m' h1 h9 h3 h4 h5
              · have e9 : m' = m := by omega
                subst e9
                first
                | assumption
                | (exfalso; omega)
                | exact absurd (hl0.mpr h4) (by assumption)
                | exact absurd (mthere_of (hQ.2.1.2 m' (by omega)).2.2.2.2 (by have := (prs_mem.mp h3).2; rw [(hQ.2.1.2 m' (by omega)).2.2.2.2, this]; rfl)) (by rw [maway_of (hQ.2.1.2 m' (by omega)).2.2.2.2 h64]; decide))
          · skip
            refine z_aload_n (pc := 78) dX11_isFirst_78 rfl ?_
            refine z_iload_n (pc := 79) dX11_isFirst_79 rfl ?_
            refine z_iload (pc := 80) dX11_isFirst_80 rfl ?_
            refine z_iv2 (pc := 82) dX11_isFirst_82 kv_X11_200 rfl (by decide) (by decide) rfl rfl ?_
            refine c_mapart (p := k) (q := m) hQ hkn (by omega) hz hm (fun qa => ?_) (fun qa => ?_)
            · skip
              refine z_if_eq (pc := 85) (tgt := 90) dX11_isFirst_85 rfl (fun hc => absurd hc (by decide)) (fun _ => ?_)
              refine z_iconst (pc := 88) (v := 0) dX11_isFirst_88 (by decide) ?_
              refine z_zret (pc := 89) dX11_isFirst_89 rfl (by decide) ?_
              refine hf ?_
              cases hb : fstP (prs n pt) pt p q with
              | false => rfl
              | true =>
                have := (mfst hp hq hlt ha).mp hb k m hkp hkm hkP (prs_mem.mpr ⟨by omega, mthere_of (hQ.2.1.2 m (by omega)).2.2.2.2 h64⟩) hk0 (hl0.mp (by omega)) (by omega)
                rw [qa] at this
                cases this
            · skip
              refine z_if_eq (pc := 85) (tgt := 90) dX11_isFirst_85 rfl (fun _ => ?_) (fun hc => absurd hc (by decide))
              refine z_iincT (pc := 90) dX11_isFirst_90 rfl rfl (by decide) (by decide) (by omega) (by omega) rfl rfl (fun v => by dsimp only [setI, setL, List.set]) (fun v90 e90 => ?_)
              refine z_goto (pc := 93) (tgt := 37) dX11_isFirst_93 rfl ?_
              exact ih (m + 1) v90 (by omega) (by omega) (by omega) (by omega) (fun m' h1 h2 h3 h4 h5 => by
                rcases Nat.lt_or_ge m' m with h9 | h9
                · exact hno m' h1 h9 h3 h4 h5
                · have e9 : m' = m := by omega
                  subst e9
                  first
                  | assumption
                  | (exfalso; omega)
                  | exact absurd (hl0.mpr h4) (by assumption)
                  | exact absurd (mthere_of (hQ.2.1.2 m' (by omega)).2.2.2.2 (by have := (prs_mem.mp h3).2; rw [(hQ.2.1.2 m' (by omega)).2.2.2.2, this]; rfl)) (by rw [maway_of (hQ.2.1.2 m' (by omega)).2.2.2.2 h64]; decide))

theorem c_misf_out {l : Launch} {G : Gx} {d : Nat} {σ : Sg} {Q : Option Value → Sg → Prop} {n p q : Nat} {pt : Nat → Pt} {x1 x2 : Int32} (hQ : rmQ σ n pt) (hL : isLnM σ (lnO pt (p, q))) (hp : p ∈ prs n pt) (hq : q ∈ prs n pt) (hlt : p < q) (ha : apt (pt p) (pt q) = true) (hx : x1.toInt = (p : Int)) (hy : x2.toInt = (q : Int)) (ht : fstP (prs n pt) pt p q = true → Q (some (.int 1)) σ) (hf : fstP (prs n pt) pt p q = false → Q (some (.int 0)) σ) : ∀ (f k : Nat) (x3 : Int32) (y : Option Value), x3.toInt = (k : Int) → k ≤ p + 1 → p + 1 - k < f → (∀ k' m, k' < k → k' < m → k' ∈ prs n pt → m ∈ prs n pt → crs (pt p) (pt q) (pt k') = 0 → crs (pt p) (pt q) (pt m) = 0 → (k' < p ∨ m < q) → apt (pt k') (pt m) = false) → Z l G M_X11_isFirst (d + 1) 8 [some (.ref 1), some (.int x1), some (.int x2), some (.int x3), y] [] σ Q := by
  intro f
  induction f with
  | zero => intro k x3 y hz hk hfu hno; omega
  | succ f ih =>
  intro k x3 y hz hk hfu hno
  refine z_sub (L' := [some _, some _, some _, some _, none]) ⟨rfl, rfl, rfl, rfl, trivial⟩ ?_
  have hg := hQ.2.1.1
  have hn := hQ.1
  have hpn := (prs_mem.mp hp).1
  have hqn := (prs_mem.mp hq).1
  have hab := lnO_ab hQ.2.2.1 hpn hqn ha
  refine z_iload_n (pc := 8) dX11_isFirst_8 rfl ?_
  refine z_iload_n (pc := 9) dX11_isFirst_9 rfl ?_
  refine zq_icmp_gt (pc := 10) (tgt := 102) dX11_isFirst_10 rfl rfl rfl (fun h10 => ?_) (fun h10 => ?_)
  · skip
    refine z_iconst (pc := 102) (v := 1) dX11_isFirst_102 (by decide) ?_
    refine z_zret (pc := 103) dX11_isFirst_103 rfl (by decide) ?_
    exact ht ((mfst hp hq hlt ha).mpr (fun k' m h1 h2 h3 h4 h5 h6 h7 => hno k' m (by omega) h2 h3 h4 h5 h6 h7))
  · skip
    refine z_aload_n (pc := 13) dX11_isFirst_13 rfl ?_
    refine z_getR (pc := 14) (t := 35) dX11_isFirst_14 fk_X11_22 rfl (by decide) (by decide) (by decide) rfl ?_
    refine z_iload_n (pc := 17) dX11_isFirst_17 rfl ?_
    refine z_zaldN (pc := 18) k dX11_isFirst_18 rfl (by decide) hz (by show _ < 40; omega) ?_
    refine zq_if_ne (pc := 19) (tgt := 96) dX11_isFirst_19 rfl rfl (fun h19 => ?_) (fun h19 => ?_)
    · skip
      refine z_iincT (pc := 96) dX11_isFirst_96 rfl rfl (by decide) (by decide) (by omega) (by omega) rfl rfl (fun v => by dsimp only [setI, setL, List.set]) (fun v96 e96 => ?_)
      refine z_goto (pc := 99) (tgt := 8) dX11_isFirst_99 rfl ?_
      exact ih (k + 1) v96 _ (by omega) (by omega) (by omega) (fun k' m h1 h2 h3 h4 h5 h6 h7 => by
        rcases Nat.lt_or_ge k' k with h9 | h9
        · exact hno k' m h9 h2 h3 h4 h5 h6 h7
        · have e9 : k' = k := by omega
          subst e9
          exfalso
          first
          | exact absurd (hl0.mpr h5) (by assumption)
          | exact absurd (prs_mem.mp h3).2 (by rw [maway_of (hQ.2.1.2 k' (by omega)).2.2.2.2 h19]; decide))
    · skip
      refine z_aload_n (pc := 22) dX11_isFirst_22 rfl ?_
      refine z_iload_n (pc := 23) dX11_isFirst_23 rfl ?_
      refine z_iv1 (pc := 24) dX11_isFirst_24 kv_X11_210 rfl (by decide) (by decide) rfl rfl ?_
      refine c_mat (i := k) hQ hL (by omega) (by omega) hz (fun ra era => ?_)
      have hl0 := lv_0 (z := (p, q)) ha (pt k)
      rw [← era] at hl0
      refine z_lconst (pc := 27) (v := 0) dX11_isFirst_27 (by decide) ?_
      refine zq_lc_ne (pc := 28) (cy := 0) (tgt := 96) dX11_isFirst_28 dX11_isFirst_29 rfl rfl (by decide) (fun h28 => ?_) (fun h28 => ?_)
      · skip
        refine z_iincT (pc := 96) dX11_isFirst_96 rfl rfl (by decide) (by decide) (by omega) (by omega) rfl rfl (fun v => by dsimp only [setI, setL, List.set]) (fun v96 e96 => ?_)
        refine z_goto (pc := 99) (tgt := 8) dX11_isFirst_99 rfl ?_
        exact ih (k + 1) v96 _ (by omega) (by omega) (by omega) (fun k' m h1 h2 h3 h4 h5 h6 h7 => by
          rcases Nat.lt_or_ge k' k with h9 | h9
          · exact hno k' m h9 h2 h3 h4 h5 h6 h7
          · have e9 : k' = k := by omega
            subst e9
            exfalso
            first
            | exact absurd (hl0.mpr h5) (by assumption)
            | exact absurd (prs_mem.mp h3).2 (by rw [maway_of (hQ.2.1.2 k' (by omega)).2.2.2.2 h19]; decide))
      · skip
        refine z_iload_n (pc := 32) dX11_isFirst_32 rfl ?_
        refine z_iconst (pc := 33) (v := 1) dX11_isFirst_33 (by decide) ?_
        refine z_iaddT (pc := 34) (cy := 1) dX11_isFirst_34 rfl (by decide) (by omega) (by omega) (fun v34 e34 => ?_)
        refine z_istore (pc := 35) dX11_isFirst_35 rfl rfl (by dsimp only [setI, setL, List.set]) ?_
        have hkP : k ∈ prs n pt := prs_mem.mpr ⟨by omega, mthere_of (hQ.2.1.2 k (by omega)).2.2.2.2 h19⟩
        refine c_misf_in hQ hL hp hq hlt ha hx hy (by omega) hkP (hl0.mp (by omega)) hz hf ?_ (n + 1) (k + 1) v34 (by omega) (by omega) (by omega) (by omega) (fun m' h1 h2 => by omega)
        intro x4 hin
        refine z_iincT (pc := 96) dX11_isFirst_96 rfl rfl (by decide) (by decide) (by omega) (by omega) rfl rfl (fun v => by dsimp only [setI, setL, List.set]) (fun v96 e96 => ?_)
        refine z_goto (pc := 99) (tgt := 8) dX11_isFirst_99 rfl ?_
        exact ih (k + 1) v96 _ (by omega) (by omega) (by omega) (fun k' m h1 h2 h3 h4 h5 h6 h7 => by
          rcases Nat.lt_or_ge k' k with h9 | h9
          · exact hno k' m h9 h2 h3 h4 h5 h6 h7
          · have e9 : k' = k := by omega
            subst e9
            exact hin m h2 h4 h6 h7)

theorem c_X11_isFirst {l : Launch} {G : Gx} {d : Nat} {σ : Sg} {Q : Option Value → Sg → Prop} {n p q : Nat} {pt : Nat → Pt} {x1 x2 : Int32} (hQ : rmQ σ n pt) (hp : p ∈ prs n pt) (hq : q ∈ prs n pt) (hlt : p < q) (ha : apt (pt p) (pt q) = true) (hx : x1.toInt = (p : Int)) (hy : x2.toInt = (q : Int)) (ht : ∀ τ, isLnM τ (lnO pt (p, q)) → FrQ σ τ → fstP (prs n pt) pt p q = true → Q (some (.int 1)) τ) (hf : ∀ τ, FrQ σ τ → fstP (prs n pt) pt p q = false → Q (some (.int 0)) τ) : Z l G M_X11_isFirst (d + 2) 0 [some (.ref 1), some (.int x1), some (.int x2)] [] σ Q := by
  have hpn := (prs_mem.mp hp).1
  have hqn := (prs_mem.mp hq).1
  refine z_sub (L' := [some (.ref 1), some (.int x1), some (.int x2), none, none]) ⟨rfl, rfl, rfl, trivial⟩ ?_
  refine z_aload_n (pc := 0) dX11_isFirst_0 rfl ?_
  refine z_iload_n (pc := 1) dX11_isFirst_1 rfl ?_
  refine z_iload_n (pc := 2) dX11_isFirst_2 rfl ?_
  refine z_iv2 (pc := 3) dX11_isFirst_3 kv_X11_203 rfl (by decide) (by decide) rfl rfl ?_
  refine c_mlook hQ hpn hqn hx hy ha (fun τ hL hF t1 t2 t3 => ?_)
  refine z_iconst (pc := 6) (v := 0) dX11_isFirst_6 (by decide) ?_
  refine z_istore_n (pc := 7) dX11_isFirst_7 rfl rfl (by dsimp only [setI, setL, List.set]) ?_
  exact c_misf_out (rmQ_Fr hQ hF) hL hp hq hlt ha hx hy (ht τ hL hF) (hf τ hF) (p + 2) 0 0 _ (by decide) (by omega) (by omega) (fun k' m h => absurd h (by omega))

theorem prs_first {n p : Nat} {pt : Nat → Pt} (hp : p < n) (h0 : ∀ i, i < p → (pt i).2.2.2.2 = true) (h1 : (pt p).2.2.2.2 = false) : (prs n pt)[0]? = some p := by
  have hm : p ∈ prs n pt := prs_mem.mpr ⟨hp, h1⟩
  obtain ⟨k, hk⟩ := List.getElem?_of_mem hm
  rcases Nat.eq_zero_or_pos k with h | h
  · rw [h] at hk; exact hk
  · exfalso
    have hl := (List.getElem?_eq_some_iff.mp hk).1
    obtain ⟨r, hr⟩ := prs_get (pt := pt) (n := n) (j := 0) (by omega)
    have := ((sorted_idx (prs_sorted n pt) hr hk).1).mp h
    have h2 := h0 r this
    rw [(prs_at hr).2] at h2
    cases h2

theorem c_mft_loop {l : Launch} {G : Gx} {d : Nat} {σ : Sg} {Q : Option Value → Sg → Prop} {n : Nat} {pt : Nat → Pt} (hQ : rmQ σ n pt) (hm : 0 < (prs n pt).length) (h : ∀ (p : Nat) (r : Int32), (prs n pt)[0]? = some p → r.toInt = (p : Int) → Q (some (.int r)) σ) : ∀ (f p : Nat) (x1 : Int32), x1.toInt = (p : Int) → p ≤ n → n - p < f → (∀ i, i < p → (pt i).2.2.2.2 = true) → Z l G M_X11_firstThere d 2 [some (.ref 1), some (.int x1)] [] σ Q := by
  intro f
  induction f with
  | zero => intro p x1 hx hp hfu hno; omega
  | succ f ih =>
  intro p x1 hx hp hfu hno
  have hg := hQ.2.1.1
  have hn := hQ.1
  refine z_iload_n (pc := 2) dX11_firstThere_2 rfl ?_
  refine z_aload_n (pc := 3) dX11_firstThere_3 rfl ?_
  refine z_getI (pc := 4) dX11_firstThere_4 fk_X11_101 rfl (by decide) (by decide) (by decide) ?_
  refine zq_icmp_ge (pc := 7) (tgt := 25) dX11_firstThere_7 rfl rfl rfl (fun h7 => ?_) (fun h7 => ?_)
  · skip
    refine z_iload_n (pc := 25) dX11_firstThere_25 rfl ?_
    refine z_aload_n (pc := 26) dX11_firstThere_26 rfl ?_
    refine z_getI (pc := 27) dX11_firstThere_27 fk_X11_101 rfl (by decide) (by decide) (by decide) ?_
    refine zq_icmp_ge (pc := 30) (tgt := 37) dX11_firstThere_30 rfl rfl rfl (fun h30 => ?_) (fun h30 => ?_)
    · skip
      exfalso
      have e : p = n := by omega
      obtain ⟨r, hr⟩ := prs_get (pt := pt) (n := n) (j := 0) hm
      have h2 := hno r (by have := (prs_at hr).1; omega)
      rw [(prs_at hr).2] at h2
      cases h2
    · skip
      refine z_iload_n (pc := 33) dX11_firstThere_33 rfl ?_
      refine z_goto (pc := 34) (tgt := 39) dX11_firstThere_34 rfl ?_
      refine z_iret (pc := 39) dX11_firstThere_39 rfl ?_
      first
      | (exfalso; omega)
      | exact h p x1 (prs_first (by omega) hno (mthere_of (hQ.2.1.2 p (by omega)).2.2.2.2 (by omega))) hx
  · skip
    refine z_aload_n (pc := 10) dX11_firstThere_10 rfl ?_
    refine z_getR (pc := 11) (t := 35) dX11_firstThere_11 fk_X11_22 rfl (by decide) (by decide) (by decide) rfl ?_
    refine z_iload_n (pc := 14) dX11_firstThere_14 rfl ?_
    refine z_zaldN (pc := 15) p dX11_firstThere_15 rfl (by decide) hx (by show _ < 40; omega) ?_
    refine zq_if_eq (pc := 16) (tgt := 25) dX11_firstThere_16 rfl rfl (fun h16 => ?_) (fun h16 => ?_)
    · skip
      refine z_iload_n (pc := 25) dX11_firstThere_25 rfl ?_
      refine z_aload_n (pc := 26) dX11_firstThere_26 rfl ?_
      refine z_getI (pc := 27) dX11_firstThere_27 fk_X11_101 rfl (by decide) (by decide) (by decide) ?_
      refine zq_icmp_ge (pc := 30) (tgt := 37) dX11_firstThere_30 rfl rfl rfl (fun h30 => ?_) (fun h30 => ?_)
      · skip
        exfalso
        have e : p = n := by omega
        obtain ⟨r, hr⟩ := prs_get (pt := pt) (n := n) (j := 0) hm
        have h2 := hno r (by have := (prs_at hr).1; omega)
        rw [(prs_at hr).2] at h2
        cases h2
      · skip
        refine z_iload_n (pc := 33) dX11_firstThere_33 rfl ?_
        refine z_goto (pc := 34) (tgt := 39) dX11_firstThere_34 rfl ?_
        refine z_iret (pc := 39) dX11_firstThere_39 rfl ?_
        first
        | (exfalso; omega)
        | exact h p x1 (prs_first (by omega) hno (mthere_of (hQ.2.1.2 p (by omega)).2.2.2.2 (by omega))) hx
    · skip
      refine z_iincT (pc := 19) dX11_firstThere_19 rfl rfl (by decide) (by decide) (by omega) (by omega) rfl rfl (fun v => by dsimp only [setI, setL, List.set]) (fun v19 e19 => ?_)
      refine z_goto (pc := 22) (tgt := 2) dX11_firstThere_22 rfl ?_
      exact ih (p + 1) v19 (by omega) (by omega) (by omega) (fun i hi => by
        rcases Nat.lt_or_ge i p with h9 | h9
        · exact hno i h9
        · have e9 : i = p := by omega
          subst e9
          exact maway_of (hQ.2.1.2 i (by omega)).2.2.2.2 (by assumption))

theorem c_X11_firstThere {l : Launch} {G : Gx} {d : Nat} {σ : Sg} {Q : Option Value → Sg → Prop} {n : Nat} {pt : Nat → Pt} (hQ : rmQ σ n pt) (hm : 0 < (prs n pt).length) (h : ∀ (p : Nat) (r : Int32), (prs n pt)[0]? = some p → r.toInt = (p : Int) → Q (some (.int r)) σ) : Z l G M_X11_firstThere (d) 0 [some (.ref 1)] [] σ Q := by
  refine z_sub (L' := [some (.ref 1), none]) ⟨rfl, trivial⟩ ?_
  refine z_iconst (pc := 0) (v := 0) dX11_firstThere_0 (by decide) ?_
  refine z_istore_n (pc := 1) dX11_firstThere_1 rfl rfl (by dsimp only [setI, setL, List.set]) ?_
  exact c_mft_loop hQ hm h (n + 1) 0 0 (by decide) (by omega) (by omega) (fun i h => absurd h (by omega))
