theorem c_X11_plant {l : Launch} {G : Gx} {d : Nat} {σ : Sg} {Q : Option Value → Sg → Prop} {a : Ab} {x1 x2 x3 : Int32} (hr : rM σ a) (hk : abOk a) (h : ∀ (r : Int32) (τ : Sg), r.toInt = (sPlant a x1 x2 x3).1 → rM τ (sPlant a x1 x2 x3).2 → eqC σ τ → Q (some (.int r)) τ) : Z l G M_X11_plant (d + 2) 0 [some (.ref 1), some (.int x1), some (.int x2), some (.int x3)] [] σ Q := by
  have hg := hr.1.1
  have hn := hk.1
  refine z_sub (L' := [some (.ref 1), some (.int x1), some (.int x2), some (.int x3), none, none, none, none]) ⟨rfl, rfl, rfl, rfl, trivial⟩ ?_
  refine z_iload_n (pc := 0) dX11_plant_0 rfl ?_
  refine z_is1 (pc := 1) dX11_plant_1 ks_X11_85 rfl rfl ?_
  refine c_X11_isBed (fun q1 => ?_) (fun q1 => ?_)
  · skip
    refine z_if_eq (pc := 4) (tgt := 19) dX11_plant_4 rfl (fun hc => absurd hc (by decide)) (fun _ => ?_)
    refine z_iload_n (pc := 7) dX11_plant_7 rfl ?_
    refine z_i2lT (pc := 8) dX11_plant_8 rfl (fun v8 e8 => ?_)
    refine z_lconst (pc := 9) (v := 0) dX11_plant_9 (by decide) ?_
    refine z_ldc2 (pc := 10) dX11_plant_10 kc_X11_120 ?_
    refine z_is3 (pc := 13) dX11_plant_13 ks_X11_81 rfl rfl ?_
    refine c_X11_in (cl := 0) (cm := 4) (by first | assumption | rfl) (by decide) (by decide) (fun q13 => ?_) (fun q13 => ?_)
    · skip
      refine z_if_ne (pc := 16) (tgt := 22) dX11_plant_16 rfl (fun _ => ?_) (fun hc => absurd hc (by decide))
      refine z_aload_n (pc := 22) dX11_plant_22 rfl ?_
      refine z_getI (pc := 23) dX11_plant_23 fk_X11_101 rfl (by decide) (by decide) (by decide) ?_
      refine z_bipush (pc := 26) (v := 40) dX11_plant_26 (by decide) ?_
      refine zq_icmp_ne (pc := 28) (cy := 40) (tgt := 34) dX11_plant_28 rfl rfl (by decide) (fun h28 => ?_) (fun h28 => ?_)
      · skip
        obtain ⟨b, hb, hbe⟩ : ∃ b : Nat, b < 8 ∧ x1.toInt = (b : Int) := ⟨x1.toInt.toNat, by omega, by omega⟩
        refine z_aload_n (pc := 34) dX11_plant_34 rfl ?_
        refine z_getR (pc := 35) (t := 36) dX11_plant_35 fk_X11_31 rfl (by decide) (by decide) (by decide) rfl ?_
        refine z_iload_n (pc := 38) dX11_plant_38 rfl ?_
        refine z_ialdN (pc := 39) b dX11_plant_39 rfl (by decide) hbe (by show _ < 8; omega) ?_
        refine zq_if_ne (pc := 40) (tgt := 49) dX11_plant_40 rfl rfl (fun h40 => ?_) (fun h40 => ?_)
        · skip
          have hq : (a.2.1 b).1 ≠ 0 := fun z => h40 (by rw [(hr.2.1 b hb).1, z]; rfl)
          obtain ⟨hB3, hB4⟩ := (hr.2.1 b hb).2 hq
          have hBk2 := (hk.2.2.1 b hb).2.2 hq
          have e37 : (σ.1 37 b).toInt = (a.2.1 b).2.1.toInt := by rw [hB3]
          refine z_iload_n (pc := 49) dX11_plant_49 rfl ?_
          refine z_i2lT (pc := 50) dX11_plant_50 rfl (fun v50 e50 => ?_)
          refine z_lconst (pc := 51) (v := 0) dX11_plant_51 (by decide) ?_
          refine z_aload_n (pc := 52) dX11_plant_52 rfl ?_
          refine z_getR (pc := 53) (t := 37) dX11_plant_53 fk_X11_34 rfl (by decide) (by decide) (by decide) rfl ?_
          refine z_iload_n (pc := 56) dX11_plant_56 rfl ?_
          refine z_ialdN (pc := 57) b dX11_plant_57 rfl (by decide) hbe (by show _ < 8; omega) ?_
          refine z_iconst (pc := 58) (v := 2) dX11_plant_58 (by decide) ?_
          refine z_isubT (pc := 59) (cy := 2) dX11_plant_59 rfl (by decide) (by omega) (by omega) (fun v59 e59 => ?_)
          refine z_i2lT (pc := 60) dX11_plant_60 rfl (fun v60 e60 => ?_)
          refine z_is3 (pc := 61) dX11_plant_61 ks_X11_81 rfl rfl ?_
          refine c_X11_in (cl := 0) (by first | assumption | rfl) (by decide) (by first | assumption | rfl) (fun q61 => ?_) (fun q61 => ?_)
          · skip
            refine z_if_ne (pc := 64) (tgt := 73) dX11_plant_64 rfl (fun _ => ?_) (fun hc => absurd hc (by decide))
            obtain ⟨j, hje, hj⟩ : ∃ j : Nat, x2.toInt = (j : Int) ∧ (j : Int) + 2 ≤ (a.2.1 b).2.1.toInt := ⟨x2.toInt.toNat, by omega, by omega⟩
            have fx := hB4 j (by omega)
            have fy := hB4 (j + 1) (by omega)
            have fx' : (σ.2 38 (100 * b + j)).toInt = ((a.2.1 b).2.2 j).toInt := by rw [fx]
            have fy' : (σ.2 38 (100 * b + (j + 1))).toInt = ((a.2.1 b).2.2 (j + 1)).toInt := by rw [fy]
            refine z_aload_n (pc := 73) dX11_plant_73 rfl ?_
            refine z_getR (pc := 74) (t := 38) dX11_plant_74 fk_X11_37 rfl (by decide) (by decide) (by decide) rfl ?_
            refine z_bipush (pc := 77) (v := 100) dX11_plant_77 (by decide) ?_
            refine z_iload_n (pc := 79) dX11_plant_79 rfl ?_
            refine z_imulT (pc := 80) (cx := 100) dX11_plant_80 (by decide) rfl (by omega) (by omega) (fun v80 e80 => ?_)
            refine z_iload_n (pc := 81) dX11_plant_81 rfl ?_
            refine z_iaddT (pc := 82) dX11_plant_82 rfl rfl (by omega) (by omega) (fun v82 e82 => ?_)
            refine z_laldN (pc := 83) (100 * b + j) dX11_plant_83 rfl (by decide) (by omega) (by show _ < 800; omega) ?_
            refine z_lstore (pc := 84) dX11_plant_84 rfl rfl (by dsimp only [setI, setL, List.set]) ?_
            refine z_aload_n (pc := 86) dX11_plant_86 rfl ?_
            refine z_getR (pc := 87) (t := 38) dX11_plant_87 fk_X11_37 rfl (by decide) (by decide) (by decide) rfl ?_
            refine z_bipush (pc := 90) (v := 100) dX11_plant_90 (by decide) ?_
            refine z_iload_n (pc := 92) dX11_plant_92 rfl ?_
            refine z_imulT (pc := 93) (cx := 100) dX11_plant_93 (by decide) rfl (by omega) (by omega) (fun v93 e93 => ?_)
            refine z_iload_n (pc := 94) dX11_plant_94 rfl ?_
            refine z_iaddT (pc := 95) dX11_plant_95 rfl rfl (by omega) (by omega) (fun v95 e95 => ?_)
            refine z_iconst (pc := 96) (v := 1) dX11_plant_96 (by decide) ?_
            refine z_iaddT (pc := 97) (cy := 1) dX11_plant_97 rfl (by decide) (by omega) (by omega) (fun v97 e97 => ?_)
            refine z_laldN (pc := 98) (100 * b + (j + 1)) dX11_plant_98 rfl (by decide) (by omega) (by show _ < 800; omega) ?_
            refine z_lstore (pc := 99) dX11_plant_99 rfl rfl (by dsimp only [setI, setL, List.set]) ?_
            refine z_lload (pc := 101) dX11_plant_101 rfl ?_
            refine z_ldc2 (pc := 103) dX11_plant_103 kc_X11_123 ?_
            refine z_ldc2 (pc := 106) dX11_plant_106 kc_X11_125 ?_
            refine z_is3 (pc := 109) dX11_plant_109 ks_X11_81 rfl rfl ?_
            refine c_X11_in (cl := -300) (cm := 300) (by first | assumption | rfl) (by decide) (by decide) (fun q109 => ?_) (fun q109 => ?_)
            · skip
              refine z_if_eq (pc := 112) (tgt := 129) dX11_plant_112 rfl (fun hc => absurd hc (by decide)) (fun _ => ?_)
              refine z_lload (pc := 115) dX11_plant_115 rfl ?_
              refine z_ldc2 (pc := 117) dX11_plant_117 kc_X11_123 ?_
              refine z_ldc2 (pc := 120) dX11_plant_120 kc_X11_125 ?_
              refine z_is3 (pc := 123) dX11_plant_123 ks_X11_81 rfl rfl ?_
              refine c_X11_in (cl := -300) (cm := 300) (by first | assumption | rfl) (by decide) (by decide) (fun q123 => ?_) (fun q123 => ?_)
              · skip
                refine z_if_ne (pc := 126) (tgt := 132) dX11_plant_126 rfl (fun _ => ?_) (fun hc => absurd hc (by decide))
                refine z_aload_n (pc := 132) dX11_plant_132 rfl ?_
                refine z_aload_n (pc := 133) dX11_plant_133 rfl ?_
                refine z_getI (pc := 134) dX11_plant_134 fk_X11_101 rfl (by decide) (by decide) (by decide) ?_
                refine z_iconst (pc := 137) (v := 1) dX11_plant_137 (by decide) ?_
                refine z_iv2 (pc := 138) dX11_plant_138 kv_X11_127 rfl (by decide) (by decide) rfl rfl ?_
                refine c_X11_keep (i := a.1.1) (by omega) hg (by decide) (hr.2.2.2.2.2.2 _ (by omega)) ?_
                change Z l G _ _ _ _ _ (km σ a.1.1 (σ.1 1 0) 1) Q
                have hgk : ((km σ a.1.1 (σ.1 1 0) 1).1 1 0) = σ.1 1 0 := km_1 (by omega)
                refine z_aload_n (pc := 141) dX11_plant_141 rfl ?_
                refine z_getR (pc := 142) (t := 31) dX11_plant_142 fk_X11_7 rfl (by decide) (by decide) (by decide) rfl ?_
                refine z_aload_n (pc := 145) dX11_plant_145 rfl ?_
                refine z_getI (pc := 146) dX11_plant_146 fk_X11_101 rfl (by decide) (by decide) (by decide) ?_
                refine z_lload (pc := 149) dX11_plant_149 rfl ?_
                refine z_l2i (pc := 151) dX11_plant_151 ?_
                refine z_iastN (pc := 152) a.1.1 dX11_plant_152 rfl (by decide) (by first | exact hg | (simp (disch := omega) only [uI_row]; rw [km_1 (by omega)]; exact hg) | (rw [km_1 (by omega)]; exact hg)) (by show _ < 40; omega) ?_
                refine z_aload_n (pc := 153) dX11_plant_153 rfl ?_
                refine z_getR (pc := 154) (t := 32) dX11_plant_154 fk_X11_13 rfl (by decide) (by decide) (by decide) rfl ?_
                refine z_aload_n (pc := 157) dX11_plant_157 rfl ?_
                refine z_getI (pc := 158) dX11_plant_158 fk_X11_101 rfl (by decide) (by decide) (by decide) ?_
                refine z_lload (pc := 161) dX11_plant_161 rfl ?_
                refine z_l2i (pc := 163) dX11_plant_163 ?_
                refine z_iastN (pc := 164) a.1.1 dX11_plant_164 rfl (by decide) (by first | exact hg | (simp (disch := omega) only [uI_row]; rw [km_1 (by omega)]; exact hg) | (rw [km_1 (by omega)]; exact hg)) (by show _ < 40; omega) ?_
                refine z_aload_n (pc := 165) dX11_plant_165 rfl ?_
                refine z_getR (pc := 166) (t := 33) dX11_plant_166 fk_X11_16 rfl (by decide) (by decide) (by decide) rfl ?_
                refine z_aload_n (pc := 169) dX11_plant_169 rfl ?_
                refine z_getI (pc := 170) dX11_plant_170 fk_X11_101 rfl (by decide) (by decide) (by decide) ?_
                refine z_iload_n (pc := 173) dX11_plant_173 rfl ?_
                refine z_iastN (pc := 174) a.1.1 dX11_plant_174 rfl (by decide) (by first | exact hg | (simp (disch := omega) only [uI_row]; rw [km_1 (by omega)]; exact hg) | (rw [km_1 (by omega)]; exact hg)) (by show _ < 40; omega) ?_
                refine z_aload_n (pc := 175) dX11_plant_175 rfl ?_
                refine z_getR (pc := 176) (t := 34) dX11_plant_176 fk_X11_19 rfl (by decide) (by decide) (by decide) rfl ?_
                refine z_aload_n (pc := 179) dX11_plant_179 rfl ?_
                refine z_getI (pc := 180) dX11_plant_180 fk_X11_101 rfl (by decide) (by decide) (by decide) ?_
                refine z_iconst (pc := 183) (v := 0) dX11_plant_183 (by decide) ?_
                refine z_iastN (pc := 184) a.1.1 dX11_plant_184 rfl (by decide) (by first | exact hg | (simp (disch := omega) only [uI_row]; rw [km_1 (by omega)]; exact hg) | (rw [km_1 (by omega)]; exact hg)) (by show _ < 40; omega) ?_
                refine z_aload_n (pc := 185) dX11_plant_185 rfl ?_
                refine z_getR (pc := 186) (t := 35) dX11_plant_186 fk_X11_22 rfl (by decide) (by decide) (by decide) rfl ?_
                refine z_aload_n (pc := 189) dX11_plant_189 rfl ?_
                refine z_getI (pc := 190) dX11_plant_190 fk_X11_101 rfl (by decide) (by decide) (by decide) ?_
                refine z_iconst (pc := 193) (v := 0) dX11_plant_193 (by decide) ?_
                refine z_zastN (pc := 194) a.1.1 dX11_plant_194 rfl (by decide) (by first | exact hg | (simp (disch := omega) only [uI_row]; rw [km_1 (by omega)]; exact hg) | (rw [km_1 (by omega)]; exact hg)) (by show _ < 40; omega) (by decide) ?_
                refine z_aload_n (pc := 195) dX11_plant_195 rfl ?_
                refine z_dup (pc := 196) dX11_plant_196 rfl ?_
                refine z_getI (pc := 197) dX11_plant_197 fk_X11_101 rfl (by decide) (by decide) (by decide) ?_
                simp (disch := omega) only [uI_row]
                rw [hgk]
                refine z_iconst (pc := 200) (v := 1) dX11_plant_200 (by decide) ?_
                refine z_iaddT (pc := 201) (cy := 1) dX11_plant_201 rfl (by decide) (by omega) (by omega) (fun v201 e201 => ?_)
                refine z_putI (pc := 202) dX11_plant_202 fk_X11_101 rfl (by decide) (by decide) (by decide) ?_
                refine z_aload_n (pc := 205) dX11_plant_205 rfl ?_
                refine z_aload_n (pc := 206) dX11_plant_206 rfl ?_
                refine z_getI (pc := 207) dX11_plant_207 fk_X11_101 rfl (by decide) (by decide) (by decide) ?_
                rw [uI_eq]
                refine z_iconst (pc := 210) (v := 1) dX11_plant_210 (by decide) ?_
                refine z_isubT (pc := 211) (cy := 1) dX11_plant_211 rfl (by decide) (by omega) (by omega) (fun v211 e211 => ?_)
                refine z_iv1 (pc := 212) dX11_plant_212 kv_X11_96 rfl (by decide) (by decide) rfl rfl ?_
                refine c_X11_well ?_
                refine z_iret (pc := 215) dX11_plant_215 rfl ?_
                have e : sPlant a x1 x2 x3 = _ := sPlant_6 hb hbe (by omega) (by omega) hq hje hj (by omega)
                refine h _ _ (by rw [e]; omega) (by
                  rw [e]
                  refine rM_new (x := σ.1 1 0) (w := v201) hr (by omega) hg (by omega) (fun k hk => ?_) (uI_eq _ _ _ _) ⟨?_, ?_, ?_, ?_, ?_⟩ (fun o j h1 h2 hj => ?_) (fun o h1 h2 => ?_) rfl
                  · simp (disch := omega) only [uI_row, uI_2, uI_nk, uI_no, uI_eq]
                  · simp (disch := omega) only [uI_row, uI_2, uI_nk, uI_no, uI_eq]; rw [fx]
                  · simp (disch := omega) only [uI_row, uI_2, uI_nk, uI_no, uI_eq]; rw [fy]
                  · simp (disch := omega) only [uI_row, uI_2, uI_nk, uI_no, uI_eq]
                  · simp (disch := omega) only [uI_row, uI_2, uI_nk, uI_no, uI_eq]
                  · simp (disch := omega) only [uI_row, uI_2, uI_nk, uI_no, uI_eq]; rfl
                  · simp (disch := omega) only [uI_nk, uI_row]
                    rw [km_row (by omega)]
                  · simp (disch := omega) only [uI_row]
                    rw [km_row (by omega)]) (eqC_uI (eqC_uI (eqC_uI (eqC_uI (eqC_uI (eqC_uI (eqC_uI (eqC_km eqC_rf) rfl) rfl) rfl) rfl) rfl) rfl) rfl)
              · skip
                refine z_if_ne (pc := 126) (tgt := 132) dX11_plant_126 rfl (fun hc => absurd hc (by decide)) (fun _ => ?_)
                refine z_ldc (pc := 129) dX11_plant_129 kc_X11_91 ?_
                refine z_iret (pc := 131) dX11_plant_131 rfl ?_
                have e : sPlant a x1 x2 x3 = _ := sPlant_5 hb hbe (by omega) (by omega) hq hje hj (by omega)
                exact h _ _ (by rw [e]; rfl) (by rw [e]; exact hr) eqC_rf
            · skip
              refine z_if_eq (pc := 112) (tgt := 129) dX11_plant_112 rfl (fun _ => ?_) (fun hc => absurd hc (by decide))
              refine z_ldc (pc := 129) dX11_plant_129 kc_X11_91 ?_
              refine z_iret (pc := 131) dX11_plant_131 rfl ?_
              have e : sPlant a x1 x2 x3 = _ := sPlant_5 hb hbe (by omega) (by omega) hq hje hj (by omega)
              exact h _ _ (by rw [e]; rfl) (by rw [e]; exact hr) eqC_rf
          · skip
            refine z_if_ne (pc := 64) (tgt := 73) dX11_plant_64 rfl (fun hc => absurd hc (by decide)) (fun _ => ?_)
            refine z_aload_n (pc := 67) dX11_plant_67 rfl ?_
            refine z_iconst (pc := 68) (v := 2) dX11_plant_68 (by decide) ?_
            refine z_iv1 (pc := 69) dX11_plant_69 kv_X11_92 rfl (by decide) (by decide) rfl rfl ?_
            refine c_X11_finds (by decide) (by decide) (fun r er => ?_)
            refine z_iret (pc := 72) dX11_plant_72 rfl ?_
            have e : sPlant a x1 x2 x3 = _ := sPlant_4 hb hbe (by omega) (by omega) hq (by omega)
            exact h _ _ (by rw [e, er]; rfl) (by rw [e]; exact rM_stat hr) (eqC_uI eqC_rf rfl)
        · skip
          refine z_aload_n (pc := 43) dX11_plant_43 rfl ?_
          refine z_iconst (pc := 44) (v := 1) dX11_plant_44 (by decide) ?_
          refine z_iv1 (pc := 45) dX11_plant_45 kv_X11_92 rfl (by decide) (by decide) rfl rfl ?_
          refine c_X11_finds (by decide) (by decide) (fun r er => ?_)
          refine z_iret (pc := 48) dX11_plant_48 rfl ?_
          have e : sPlant a x1 x2 x3 = _ := sPlant_3 hb hbe (by omega) (by omega) ((hr.2.1 b hb).1.symm.trans (Int32.toInt_inj.mp (h40.trans rfl)))
          exact h _ _ (by rw [e, er]; rfl) (by rw [e]; exact rM_stat hr) (eqC_uI eqC_rf rfl)
      · skip
        refine z_ldc (pc := 31) dX11_plant_31 kc_X11_122 ?_
        refine z_iret (pc := 33) dX11_plant_33 rfl ?_
        have e : sPlant a x1 x2 x3 = _ := sPlant_2 (by omega) (by omega)
        exact h _ _ (by rw [e]; rfl) (by rw [e]; exact hr) eqC_rf
    · skip
      refine z_if_ne (pc := 16) (tgt := 22) dX11_plant_16 rfl (fun hc => absurd hc (by decide)) (fun _ => ?_)
      refine z_ldc (pc := 19) dX11_plant_19 kc_X11_91 ?_
      refine z_iret (pc := 21) dX11_plant_21 rfl ?_
      have e : sPlant a x1 x2 x3 = _ := sPlant_1 (by omega)
      exact h _ _ (by rw [e]; rfl) (by rw [e]; exact hr) eqC_rf
  · skip
    refine z_if_eq (pc := 4) (tgt := 19) dX11_plant_4 rfl (fun _ => ?_) (fun hc => absurd hc (by decide))
    refine z_ldc (pc := 19) dX11_plant_19 kc_X11_91 ?_
    refine z_iret (pc := 21) dX11_plant_21 rfl ?_
    have e : sPlant a x1 x2 x3 = _ := sPlant_1 (by omega)
    exact h _ _ (by rw [e]; rfl) (by rw [e]; exact hr) eqC_rf

theorem bgs_on : ∀ (bs : List Int32) (σ : Sg) (m : Nat), σ.1 1 19 = 1 → (σ.1 1 18).toInt = (m : Int) → m + bs.length ≤ 16 → ((bgs σ bs).1 1 18).toInt = ((m + bs.length : Nat) : Int) ∧ (∀ j, j < m → (bgs σ bs).1 40 j = σ.1 40 j) ∧ ∀ j, j < bs.length → (bgs σ bs).1 40 (m + j) = bs.getD j 0
  | [], σ, m, _, hm, _ => ⟨by rw [bgs_nil]; simpa using hm, fun _ _ => rfl, fun j hj => by simp at hj⟩
  | b :: bs, σ, m, ht, hm, hl => by
    simp only [List.length_cons] at hl
    have e : bgM σ b = uI (uI σ 40 m b) 1 18 (σ.1 1 18 + 1) := by
      have em : (σ.1 1 18).toInt.toNat = m := by omega
      unfold bgM
      rw [if_pos ⟨by rw [ht]; decide, by omega⟩, em]
    rw [bgs_cons, e]
    have hm' : ((uI (uI σ 40 m b) 1 18 (σ.1 1 18 + 1)).1 1 18).toInt = ((m + 1 : Nat) : Int) := by
      rw [uI_eq, t32_add (y := 1)] <;> (have : (1 : Int32).toInt = 1 := rfl) <;> omega
    obtain ⟨h1, h2, h3⟩ := bgs_on bs _ (m + 1) (by rw [uI_nk (by omega), uI_row (by omega)]; exact ht) hm' (by omega)
    refine ⟨by rw [h1]; simp; omega, fun j hj => ?_, fun j hj => ?_⟩
    · rw [h2 j (by omega), uI_row (by omega), uI_nk (by omega)]
    · cases j with
      | zero => rw [Nat.add_zero, h2 m (by omega), uI_row (by omega), uI_eq]; rfl
      | succ j =>
        have := h3 j (by simp at hj; omega)
        rw [show m + (j + 1) = m + 1 + j by omega, this]
        rfl
theorem rM_tr {σ τ : Sg} {a : Ab} {f : Int32} {bs : List Int32} (h : rM σ a) (h1 : ∀ k, k ≠ 16 → k ≠ 18 → k ≠ 19 → τ.1 1 k = σ.1 1 k) (h19 : τ.1 1 19 = 0) (h18 : (τ.1 1 18).toInt = (bs.length : Int)) (h40 : ∀ j, j < bs.length → τ.1 40 j = bs.getD j 0) (hrow : ∀ o, o ≠ 1 → o ≠ 40 → τ.1 o = σ.1 o) (h2 : τ.2 = σ.2) (hf : τ.1 1 16 = f) : rM τ (trTo a f bs) := by
  obtain ⟨r1, r2, r3, r4, r5, r6, r7⟩ := h
  refine ⟨⟨by rw [h1 0 (by omega) (by omega) (by omega)]; exact r1.1, fun i hi => ?_⟩, rmB_cong (hrow 36 (by omega) (by omega)) (hrow 37 (by omega) (by omega)) (by rw [h2]) r2, hf, ⟨h18, h40, h19⟩, ⟨?_, ?_, ?_⟩, ?_, fun i hi => by rw [hrow 35 (by omega) (by omega)]; exact r7 i hi⟩
  · rw [hrow 31 (by omega) (by omega), hrow 32 (by omega) (by omega), hrow 33 (by omega) (by omega), hrow 34 (by omega) (by omega), hrow 35 (by omega) (by omega)]; exact r1.2 i hi
  · rw [h2]; exact r5.1
  · rw [h2]; exact r5.2.1
  · rw [h2]; exact r5.2.2
  · show rmU τ a.2.2.2.2.2
    cases hu : a.2.2.2.2.2 with
    | none => rw [hu] at r6; show (τ.1 1 6).toInt < 0; rw [h1 6 (by omega) (by omega) (by omega)]; exact r6
    | some q =>
      rw [hu] at r6
      obtain ⟨u, nw, p⟩ := q
      show (τ.1 1 6).toInt = _ ∧ τ.1 1 7 = _ ∧ (_ → τ.1 1 8 = _ ∧ τ.1 1 9 = _ ∧ τ.1 1 10 = _ ∧ τ.1 1 11 = _)
      rw [h1 6 (by omega) (by omega) (by omega), h1 7 (by omega) (by omega) (by omega), h1 8 (by omega) (by omega) (by omega), h1 9 (by omega) (by omega) (by omega), h1 10 (by omega) (by omega) (by omega), h1 11 (by omega) (by omega) (by omega)]; exact r6
theorem eqC_bgs {σ τ : Sg} {bs : List Int32} (h : eqC σ τ) : eqC σ (bgs τ bs) := fun o ho => by
  have h1 : o ≠ 1 := fun e => by rw [e] at ho; cases ho
  have h2 : o ≠ 40 := fun e => by rw [e] at ho; cases ho
  exact ⟨(bgs_row h1 h2 bs τ).trans (h o ho).1, by rw [bgs_2]; exact (h o ho).2⟩

theorem c_X11_ask {l : Launch} {G : Gx} {d : Nat} {σ : Sg} {Q : Option Value → Sg → Prop} {a : Ab} {x1 x2 : Int32} (hr : rM σ a) (hk : abOk a) (h : ∀ (r : Int32) (τ : Sg), r.toInt = (sAsk a x1 x2).1 → rM τ (sAsk a x1 x2).2 → eqC σ τ → Q (some (.int r)) τ) : Z l G M_X11_ask (d + 6) 0 [some (.ref 1), some (.int x1), some (.int x2)] [] σ Q := by
  have hg := hr.1.1
  have hn := hk.1
  refine z_sub (L' := [some (.ref 1), some (.int x1), some (.int x2), none]) ⟨rfl, rfl, rfl, trivial⟩ ?_
  refine z_aload_n (pc := 0) dX11_ask_0 rfl ?_
  refine z_iload_n (pc := 1) dX11_ask_1 rfl ?_
  refine z_iv1 (pc := 2) dX11_ask_2 kv_X11_131 rfl (by decide) (by decide) rfl rfl ?_
  refine c_X11_isPlant (by omega) (fun q2 => ?_) (fun q2 => ?_)
  · skip
    refine z_if_eq (pc := 5) (tgt := 20) dX11_ask_5 rfl (fun hc => absurd hc (by decide)) (fun _ => ?_)
    refine z_iload_n (pc := 8) dX11_ask_8 rfl ?_
    refine z_i2lT (pc := 9) dX11_ask_9 rfl (fun v9 e9 => ?_)
    refine z_lconst (pc := 10) (v := 0) dX11_ask_10 (by decide) ?_
    refine z_ldc2 (pc := 11) dX11_ask_11 kc_X11_138 ?_
    refine z_is3 (pc := 14) dX11_ask_14 ks_X11_81 rfl rfl ?_
    refine c_X11_in (cl := 0) (cm := 3) (by first | assumption | rfl) (by decide) (by decide) (fun q14 => ?_) (fun q14 => ?_)
    · skip
      refine z_if_ne (pc := 17) (tgt := 23) dX11_ask_17 rfl (fun _ => ?_) (fun hc => absurd hc (by decide))
      obtain ⟨i, hi, hie⟩ : ∃ i : Nat, i < a.1.1 ∧ x1.toInt = (i : Int) := ⟨x1.toInt.toNat, by omega, by omega⟩
      have hp : plM σ i (a.1.2 i) := hr.1.2 i hi
      have hpk := hk.2.1 i hi
      have h7 := hp.2.2.2.2
      have hgd : in03 x2.toInt 4 = true := decide_eq_true (by omega)
      refine z_aload_n (pc := 23) dX11_ask_23 rfl ?_
      refine z_iconst (pc := 24) (v := 0) dX11_ask_24 (by decide) ?_
      refine z_putI (pc := 25) dX11_ask_25 fk_X11_150 rfl (by decide) (by decide) (by decide) ?_
      refine z_aload_n (pc := 28) dX11_ask_28 rfl ?_
      refine z_getR (pc := 29) (t := 35) dX11_ask_29 fk_X11_22 rfl (by decide) (by decide) (by decide) rfl ?_
      refine z_iload_n (pc := 32) dX11_ask_32 rfl ?_
      refine z_zaldN (pc := 33) i dX11_ask_33 rfl (by decide) hie (by show _ < 40; omega) ?_
      rw [uI_row (by omega)]
      refine zq_if_eq (pc := 34) (tgt := 43) dX11_ask_34 rfl rfl (fun h34 => ?_) (fun h34 => ?_)
      · skip
        refine z_aload_n (pc := 43) dX11_ask_43 rfl ?_
        refine z_iconst (pc := 44) (v := 1) dX11_ask_44 (by decide) ?_
        refine z_putB (pc := 45) dX11_ask_45 fk_X11_147 rfl (by decide) (by decide) (by decide) (by decide) ?_
        refine z_aload_n (pc := 48) dX11_ask_48 rfl ?_
        refine z_iload_n (pc := 49) dX11_ask_49 rfl ?_
        refine z_iload_n (pc := 50) dX11_ask_50 rfl ?_
        refine z_iv2 (pc := 51) dX11_ask_51 kv_X11_172 rfl (by decide) (by decide) rfl rfl ?_
        have ek : (uI (uI σ 1 18 0) 1 19 1).1 33 i = (a.1.2 i).2.2.1 := by rw [uI_row (by omega), uI_row (by omega)]; exact hp.2.2.1
        have ec : (uI (uI σ 1 18 0) 1 19 1).1 34 i = (a.1.2 i).2.2.2.1 := by rw [uI_row (by omega), uI_row (by omega)]; exact hp.2.2.2.1
        have e18 : (uI (uI σ 1 18 0) 1 19 1).1 1 18 = 0 := by simp (disch := omega) only [uI_row, uI_2, uI_nk, uI_no, uI_eq]
        refine c_masked (p := i) (by omega) hie ⟨by rw [e18]; decide, by rw [e18]; decide⟩ (by rw [ek]; exact hpk.2.2.2.2.1) (by rw [ek]; exact hpk.2.2.2.2.2.1) (by omega) (by omega) (fun rv erv => ?_)
        rw [ek, ec] at erv ⊢
        refine z_istore_n (pc := 54) dX11_ask_54 rfl rfl (by dsimp only [setI, setL, List.set]) ?_
        refine z_aload_n (pc := 55) dX11_ask_55 rfl ?_
        refine z_iconst (pc := 56) (v := 0) dX11_ask_56 (by decide) ?_
        refine z_putB (pc := 57) dX11_ask_57 fk_X11_147 rfl (by decide) (by decide) (by decide) (by decide) ?_
        refine z_aload_n (pc := 60) dX11_ask_60 rfl ?_
        refine z_iload_n (pc := 61) dX11_ask_61 rfl ?_
        refine z_iv1 (pc := 62) dX11_ask_62 kv_X11_96 rfl (by decide) (by decide) rfl rfl ?_
        refine c_X11_well ?_
        refine z_iret (pc := 65) dX11_ask_65 rfl ?_
        have e : sAsk a x1 x2 = _ := sAsk_3 hi hie hgd (mthere_of h7 h34)
        have hon := bgs_on (asB x2.toInt (a.1.2 i).2.2.1.toInt (a.1.2 i).2.2.2.1.toInt) (uI (uI σ 1 18 0) 1 19 1) 0 (by simp (disch := omega) only [uI_row, uI_2, uI_nk, uI_no, uI_eq]) (by rw [e18]; rfl) (by have := asB_len x2.toInt (a.1.2 i).2.2.1.toInt (a.1.2 i).2.2.2.1.toInt; omega)
        exact h _ _ (by rw [e, erv]) (by
          rw [e]
          refine rM_tr hr (fun k h1 h2 h3 => ?_) (by simp (disch := omega) only [uI_row, uI_2, uI_nk, uI_no, uI_eq]) (by simp (disch := omega) only [uI_row, uI_2, uI_nk, uI_no, uI_eq]; rw [hon.1]; simp) (fun j hj => ?_) (fun o h1 h2 => ?_) (by rw [uI_2, uI_2, bgs_2, uI_2, uI_2]) (uI_eq _ _ _ _)
          · rw [uI_nk h1, uI_nk h3, bgs_1 h2, uI_nk h3, uI_nk h2]
          · rw [uI_row (by omega), uI_row (by omega)]
            have := hon.2.2 j hj
            rw [Nat.zero_add] at this
            exact this
          · rw [uI_row h1, uI_row h1, bgs_row h1 h2, uI_row h1, uI_row h1]) (eqC_uI (eqC_uI (eqC_bgs (eqC_uI (eqC_uI eqC_rf rfl) rfl)) rfl) rfl)
      · skip
        refine z_aload_n (pc := 37) dX11_ask_37 rfl ?_
        refine z_iconst (pc := 38) (v := 1) dX11_ask_38 (by decide) ?_
        refine z_iv1 (pc := 39) dX11_ask_39 kv_X11_92 rfl (by decide) (by decide) rfl rfl ?_
        refine c_X11_finds (by decide) (by decide) (fun r er => ?_)
        refine z_iret (pc := 42) dX11_ask_42 rfl ?_
        have e : sAsk a x1 x2 = _ := sAsk_2 hi hie hgd (maway_of h7 h34)
        exact h _ _ (by rw [e, er]; rfl) (by
          rw [e]
          exact rM_tr (bs := []) hr (fun k h1 h2 h3 => by simp (disch := omega) only [uI_row, uI_2, uI_nk, uI_no, uI_eq]) (by simp (disch := omega) only [uI_row, uI_2, uI_nk, uI_no, uI_eq]; exact hr.2.2.2.1.2.2) (by simp (disch := omega) only [uI_row, uI_2, uI_nk, uI_no, uI_eq]; rfl) (fun j hj => absurd hj (Nat.not_lt_zero j)) (fun o h1 h2 => by simp (disch := omega) only [uI_row, uI_2, uI_nk, uI_no, uI_eq]) rfl (uI_eq _ _ _ _)) (eqC_uI (eqC_uI eqC_rf rfl) rfl)
    · skip
      refine z_if_ne (pc := 17) (tgt := 23) dX11_ask_17 rfl (fun hc => absurd hc (by decide)) (fun _ => ?_)
      refine z_ldc (pc := 20) dX11_ask_20 kc_X11_91 ?_
      refine z_iret (pc := 22) dX11_ask_22 rfl ?_
      have hor : ¬ (0 ≤ x1.toInt ∧ x1.toInt < (a.1.1 : Int)) ∨ in03 x2.toInt 4 = false := by first | exact Or.inl (by omega) | exact Or.inr (decide_eq_false (by omega))
      have e : sAsk a x1 x2 = _ := sAsk_1 hor
      exact h _ _ (by rw [e]; rfl) (by rw [e]; exact hr) eqC_rf
  · skip
    refine z_if_eq (pc := 5) (tgt := 20) dX11_ask_5 rfl (fun _ => ?_) (fun hc => absurd hc (by decide))
    refine z_ldc (pc := 20) dX11_ask_20 kc_X11_91 ?_
    refine z_iret (pc := 22) dX11_ask_22 rfl ?_
    have hor : ¬ (0 ≤ x1.toInt ∧ x1.toInt < (a.1.1 : Int)) ∨ in03 x2.toInt 4 = false := by first | exact Or.inl (by omega) | exact Or.inr (decide_eq_false (by omega))
    have e : sAsk a x1 x2 = _ := sAsk_1 hor
    exact h _ _ (by rw [e]; rfl) (by rw [e]; exact hr) eqC_rf

theorem c_mundo_no {l : Launch} {G : Gx} {d : Nat} {σ : Sg} {Q : Option Value → Sg → Prop} {a : Ab} (hk : abOk a) (hr : rM σ a) (hu : a.2.2.2.2.2 = none) (h : ∀ (r : Int32) (τ : Sg), r.toInt = (sUndo a).1 → rM τ (sUndo a).2 → eqC σ τ → Q (some (.int r)) τ) : Z l G M_X11_undo (d) 0 [some (.ref 1)] [] σ Q := by
  have hu0 := hr.2.2.2.2.2.1
  rw [hu] at hu0
  have hu1 : (σ.1 1 6).toInt < 0 := hu0
  have e : sUndo a = (-1000002, a) := by unfold sUndo; rw [hu]
  refine z_sub (L' := [some (.ref 1)]) ⟨rfl, trivial⟩ ?_
  refine z_aload_n (pc := 0) dX11_undo_0 rfl ?_
  refine z_getI (pc := 1) dX11_undo_1 fk_X11_27 rfl (by decide) (by decide) (by decide) ?_
  refine zq_if_ge (pc := 4) (tgt := 10) dX11_undo_4 rfl rfl (fun h4 => ?_) (fun h4 => ?_)
  · skip
    exfalso; omega
  · skip
    refine z_ldc (pc := 7) dX11_undo_7 kc_X11_176 ?_
    refine z_iret (pc := 9) dX11_undo_9 rfl ?_
    exact h _ _ (by rw [e]; rfl) (by rw [e]; exact hr) eqC_rf

theorem c_mundo_new {l : Launch} {G : Gx} {d : Nat} {σ : Sg} {Q : Option Value → Sg → Prop} {a : Ab} {u : Nat} {p : Pt} (hk : abOk a) (hr : rM σ a) (hu : a.2.2.2.2.2 = some (u, true, p)) (h : ∀ (r : Int32) (τ : Sg), r.toInt = (sUndo a).1 → rM τ (sUndo a).2 → eqC σ τ → Q (some (.int r)) τ) : Z l G M_X11_undo (d) 0 [some (.ref 1)] [] σ Q := by
  have hu0 := hr.2.2.2.2.2.1
  have hku := hk.2.2.2.2.2.2.2
  have hn := hk.1
  rw [hu] at hu0 hku
  obtain ⟨u1, u2, u3⟩ := hu0
  obtain ⟨k1, k2, k3⟩ := hku
  have hg := hr.1.1
  have e : sUndo a = (1, plTo a (a.1.1 - 1) a.1.2 a.2.2.1 none) := by unfold sUndo; rw [hu]; rfl
  have k2 := k2 rfl
  refine z_sub (L' := [some (.ref 1)]) ⟨rfl, trivial⟩ ?_
  refine z_aload_n (pc := 0) dX11_undo_0 rfl ?_
  refine z_getI (pc := 1) dX11_undo_1 fk_X11_27 rfl (by decide) (by decide) (by decide) ?_
  refine zq_if_ge (pc := 4) (tgt := 10) dX11_undo_4 rfl rfl (fun h4 => ?_) (fun h4 => ?_)
  · skip
    refine z_aload_n (pc := 10) dX11_undo_10 rfl ?_
    refine z_getI (pc := 11) dX11_undo_11 fk_X11_104 rfl (by decide) (by decide) (by decide) ?_
    refine zq_if_eq (pc := 14) (tgt := 30) dX11_undo_14 rfl rfl (fun h14 => ?_) (fun h14 => ?_)
    · skip
      exfalso; rw [u2] at h14; exact absurd h14 (by decide)
    · skip
      refine z_aload_n (pc := 17) dX11_undo_17 rfl ?_
      refine z_dup (pc := 18) dX11_undo_18 rfl ?_
      refine z_getI (pc := 19) dX11_undo_19 fk_X11_101 rfl (by decide) (by decide) (by decide) ?_
      refine z_iconst (pc := 22) (v := 1) dX11_undo_22 (by decide) ?_
      refine z_isubT (pc := 23) (cy := 1) dX11_undo_23 rfl (by decide) (by omega) (by omega) (fun v23 e23 => ?_)
      refine z_putI (pc := 24) dX11_undo_24 fk_X11_101 rfl (by decide) (by decide) (by decide) ?_
      refine z_goto (pc := 27) (tgt := 82) dX11_undo_27 rfl ?_
      refine z_aload_n (pc := 82) dX11_undo_82 rfl ?_
      refine z_ldc (pc := 83) dX11_undo_83 kc_X11_26 ?_
      refine z_putI (pc := 85) dX11_undo_85 fk_X11_27 rfl (by decide) (by decide) (by decide) ?_
      refine z_iconst (pc := 88) (v := 1) dX11_undo_88 (by decide) ?_
      refine z_iret (pc := 89) dX11_undo_89 rfl ?_
      refine h _ _ (by rw [e]; rfl) (by
        rw [e]
        refine rM_pl hr ⟨?_, fun j hj => ?_⟩ ?_ (fun j hj => ?_) (fun o ho => ?_) ?_ ?_ rfl ?_
        · simp (disch := omega) only [uI_row, uI_2, uI_nk, uI_no, uI_eq]; rw [e23, hg]; omega
        · simp (disch := omega) only [uI_row, uI_2, uI_nk, uI_no, uI_eq]; exact hr.1.2 j (by omega)
        · show _ < (0 : Int)
          rw [uI_eq]; decide
        · simp (disch := omega) only [uI_row, uI_2, uI_nk, uI_no, uI_eq]; exact hr.2.2.2.2.2.2 j hj
        · simp (disch := omega) only [uI_row, uI_2, uI_nk, uI_no, uI_eq]
        · simp (disch := omega) only [uI_row, uI_2, uI_nk, uI_no, uI_eq]
        · simp (disch := omega) only [uI_row, uI_2, uI_nk, uI_no, uI_eq]
        · simp (disch := omega) only [uI_row, uI_2, uI_nk, uI_no, uI_eq]; exact hr.2.2.1) (eqC_uI (eqC_uI eqC_rf rfl) rfl)
  · skip
    exfalso; omega

theorem c_mundo_old {l : Launch} {G : Gx} {d : Nat} {σ : Sg} {Q : Option Value → Sg → Prop} {a : Ab} {u : Nat} {p : Pt} (hk : abOk a) (hr : rM σ a) (hu : a.2.2.2.2.2 = some (u, false, p)) (h : ∀ (r : Int32) (τ : Sg), r.toInt = (sUndo a).1 → rM τ (sUndo a).2 → eqC σ τ → Q (some (.int r)) τ) : Z l G M_X11_undo (d) 0 [some (.ref 1)] [] σ Q := by
  have hu0 := hr.2.2.2.2.2.1
  have hku := hk.2.2.2.2.2.2.2
  have hn := hk.1
  rw [hu] at hu0 hku
  obtain ⟨u1, u2, u3⟩ := hu0
  obtain ⟨k1, k2, k3⟩ := hku
  have hg := hr.1.1
  have e : sUndo a = (1, plTo a a.1.1 (va_up a.1.2 u p) a.2.2.1 none) := by unfold sUndo; rw [hu]; rfl
  obtain ⟨u3, u4, u5, u6⟩ := u3 rfl
  have k3 := (k3 rfl).2
  have hb11 : σ.1 1 11 = 0 ∨ σ.1 1 11 = 1 := by rw [u6]; split <;> decide
  refine z_sub (L' := [some (.ref 1)]) ⟨rfl, trivial⟩ ?_
  refine z_aload_n (pc := 0) dX11_undo_0 rfl ?_
  refine z_getI (pc := 1) dX11_undo_1 fk_X11_27 rfl (by decide) (by decide) (by decide) ?_
  refine zq_if_ge (pc := 4) (tgt := 10) dX11_undo_4 rfl rfl (fun h4 => ?_) (fun h4 => ?_)
  · skip
    refine z_aload_n (pc := 10) dX11_undo_10 rfl ?_
    refine z_getI (pc := 11) dX11_undo_11 fk_X11_104 rfl (by decide) (by decide) (by decide) ?_
    refine zq_if_eq (pc := 14) (tgt := 30) dX11_undo_14 rfl rfl (fun h14 => ?_) (fun h14 => ?_)
    · skip
      refine z_aload_n (pc := 30) dX11_undo_30 rfl ?_
      refine z_getR (pc := 31) (t := 31) dX11_undo_31 fk_X11_7 rfl (by decide) (by decide) (by decide) rfl ?_
      refine z_aload_n (pc := 34) dX11_undo_34 rfl ?_
      refine z_getI (pc := 35) dX11_undo_35 fk_X11_27 rfl (by decide) (by decide) (by decide) ?_
      refine z_aload_n (pc := 38) dX11_undo_38 rfl ?_
      refine z_getI (pc := 39) dX11_undo_39 fk_X11_108 rfl (by decide) (by decide) (by decide) ?_
      refine z_iastN (pc := 42) u dX11_undo_42 rfl (by decide) (by first | exact u1 | (simp (disch := omega) only [uI_row]; exact u1)) (by show _ < 40; omega) ?_
      refine z_aload_n (pc := 43) dX11_undo_43 rfl ?_
      refine z_getR (pc := 44) (t := 32) dX11_undo_44 fk_X11_13 rfl (by decide) (by decide) (by decide) rfl ?_
      refine z_aload_n (pc := 47) dX11_undo_47 rfl ?_
      refine z_getI (pc := 48) dX11_undo_48 fk_X11_27 rfl (by decide) (by decide) (by decide) ?_
      refine z_aload_n (pc := 51) dX11_undo_51 rfl ?_
      refine z_getI (pc := 52) dX11_undo_52 fk_X11_111 rfl (by decide) (by decide) (by decide) ?_
      rw [uI_row (by omega)]
      refine z_iastN (pc := 55) u dX11_undo_55 rfl (by decide) (by first | exact u1 | (simp (disch := omega) only [uI_row]; exact u1)) (by show _ < 40; omega) ?_
      refine z_aload_n (pc := 56) dX11_undo_56 rfl ?_
      refine z_getR (pc := 57) (t := 34) dX11_undo_57 fk_X11_19 rfl (by decide) (by decide) (by decide) rfl ?_
      refine z_aload_n (pc := 60) dX11_undo_60 rfl ?_
      refine z_getI (pc := 61) dX11_undo_61 fk_X11_27 rfl (by decide) (by decide) (by decide) ?_
      refine z_aload_n (pc := 64) dX11_undo_64 rfl ?_
      refine z_getI (pc := 65) dX11_undo_65 fk_X11_114 rfl (by decide) (by decide) (by decide) ?_
      simp (disch := omega) only [uI_row]
      refine z_iastN (pc := 68) u dX11_undo_68 rfl (by decide) (by first | exact u1 | (simp (disch := omega) only [uI_row]; exact u1)) (by show _ < 40; omega) ?_
      refine z_aload_n (pc := 69) dX11_undo_69 rfl ?_
      refine z_getR (pc := 70) (t := 35) dX11_undo_70 fk_X11_22 rfl (by decide) (by decide) (by decide) rfl ?_
      refine z_aload_n (pc := 73) dX11_undo_73 rfl ?_
      refine z_getI (pc := 74) dX11_undo_74 fk_X11_27 rfl (by decide) (by decide) (by decide) ?_
      refine z_aload_n (pc := 77) dX11_undo_77 rfl ?_
      refine z_getI (pc := 78) dX11_undo_78 fk_X11_117 rfl (by decide) (by decide) (by decide) ?_
      simp (disch := omega) only [uI_row]
      refine z_zastN (pc := 81) u dX11_undo_81 rfl (by decide) (by first | exact u1 | (simp (disch := omega) only [uI_row]; exact u1)) (by show _ < 40; omega) hb11 ?_
      refine z_aload_n (pc := 82) dX11_undo_82 rfl ?_
      refine z_ldc (pc := 83) dX11_undo_83 kc_X11_26 ?_
      refine z_putI (pc := 85) dX11_undo_85 fk_X11_27 rfl (by decide) (by decide) (by decide) ?_
      refine z_iconst (pc := 88) (v := 1) dX11_undo_88 (by decide) ?_
      refine z_iret (pc := 89) dX11_undo_89 rfl ?_
      refine h _ _ (by rw [e]; rfl) (by
        rw [e]
        have hq := hr.1.2 u k1
        refine rM_pl hr ⟨?_, fun j hj => ?_⟩ ?_ (fun j hj => ?_) (fun o ho => ?_) ?_ ?_ rfl ?_
        · simp (disch := omega) only [uI_row, uI_2, uI_nk, uI_no, uI_eq]; exact hg
        · by_cases ej : j = u
          · subst ej
            simp only [va_up, if_true]
            refine ⟨?_, ?_, ?_, ?_, ?_⟩
            · simp (disch := omega) only [uI_row, uI_2, uI_nk, uI_no, uI_eq]; exact u3
            · simp (disch := omega) only [uI_row, uI_2, uI_nk, uI_no, uI_eq]; exact u4
            · simp (disch := omega) only [uI_row, uI_2, uI_nk, uI_no, uI_eq]; rw [hq.2.2.1, k3]
            · simp (disch := omega) only [uI_row, uI_2, uI_nk, uI_no, uI_eq]; exact u5
            · simp (disch := omega) only [uI_row, uI_2, uI_nk, uI_no, uI_eq]; exact u6
          · simp only [va_up, if_neg ej]
            simp (disch := omega) only [uI_row, uI_nk]
            exact hr.1.2 j hj
        · show _ < (0 : Int)
          rw [uI_eq]; decide
        · rw [uI_row (by omega)]
          by_cases ej : j = u
          · subst ej; rw [uI_eq]; exact hb11
          · rw [uI_nk ej]; simp (disch := omega) only [uI_row]; exact hr.2.2.2.2.2.2 j hj
        · simp (disch := omega) only [uI_row, uI_2, uI_nk, uI_no, uI_eq]
        · simp (disch := omega) only [uI_row, uI_2, uI_nk, uI_no, uI_eq]
        · simp (disch := omega) only [uI_row, uI_2, uI_nk, uI_no, uI_eq]
        · simp (disch := omega) only [uI_row, uI_2, uI_nk, uI_no, uI_eq]; exact hr.2.2.1) (eqC_uI (eqC_uI (eqC_uI (eqC_uI (eqC_uI eqC_rf rfl) rfl) rfl) rfl) rfl)
    · skip
      exfalso; rw [u2] at h14; exact absurd h14 (by decide)
  · skip
    exfalso; omega

theorem c_mundo {l : Launch} {G : Gx} {d : Nat} {σ : Sg} {Q : Option Value → Sg → Prop} {a : Ab} (hr : rM σ a) (hk : abOk a) (h : ∀ (r : Int32) (τ : Sg), r.toInt = (sUndo a).1 → rM τ (sUndo a).2 → eqC σ τ → Q (some (.int r)) τ) : Z l G M_X11_undo d 0 [some (.ref 1)] [] σ Q := by
  cases hu : a.2.2.2.2.2 with
  | none => exact c_mundo_no hk hr hu h
  | some q =>
    obtain ⟨u, nw, p⟩ := q
    cases nw with
    | true => exact c_mundo_new hk hr hu h
    | false => exact c_mundo_old hk hr hu h
