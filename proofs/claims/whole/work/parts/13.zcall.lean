/-! calls -/
def rmd (d : Nat) : Room := { frames := d, cells := 0, slots := 0, locals := 64 * d }
def wsM (M : Mt) : List Cond := Cond.code M.1 M.2.1 M.2.2.1 M.2.2.2 :: gtb
def PcZ (G : Gx) (as : List Value) (σ : Sg) : Array Value → State → Prop := fun v U => v = (as.map (rv G.1)).toArray ∧ va_P G.2.1 vwCl (wsG G σ) U.heap ∧ va_D G.2.2.2.1 (wsG G σ) ∧ Ft G U
def QcZ (G : Gx) (Q : Option Value → Sg → Prop) : Array Value → State → Outcome → State → Prop := fun _ st oc t => (∃ (v : Option Value) (σ : Sg), oc = .returned (v.map (rv G.1)) ∧ Q v σ ∧ va_P G.2.1 vwCl (wsG G σ) t.heap ∧ va_D G.2.2.2.1 (wsG G σ)) ∧ va_F G.2.2.2.1 st t
/-- the locals at a method's entry -/
def ent : List Value → Lc
  | [] => []
  | v :: r => match v.category with
    | 2 => some v :: none :: ent r
    | _ => some v :: ent r
theorem ent_args (α : Nat → Nat) : ∀ (as : List Value) (j i : Nat) (v : Value), (ent as)[i]? = some (some v) → (j + i, rv α v) ∈ lv_args j (as.map (rv α))
  | [], j, i, v, h => by simp [ent] at h
  | w :: r, j, i, v, h => by
    have hc := rv_cat α w
    by_cases h2 : w.category = 2
    · have he : ent (w :: r) = some w :: none :: ent r := by simp [ent, h2]
      rw [he] at h
      show _ ∈ lv_args j (rv α w :: r.map (rv α))
      unfold lv_args
      rw [hc, h2]
      match i, h with
      | 0, h => simp at h; subst h; exact List.mem_cons_self
      | 1, h => simp at h
      | i + 2, h =>
        refine List.mem_cons_of_mem _ ?_
        have := ent_args α r (j + 2) i v (by simpa using h)
        simpa [Nat.add_assoc, Nat.add_comm 2 i] using this
    · have he : ent (w :: r) = some w :: ent r := by
        rw [ent]
        split
        · rename_i hh; exact absurd hh h2
        · rfl
      rw [he] at h
      show _ ∈ lv_args j (rv α w :: r.map (rv α))
      unfold lv_args
      rw [hc, if_neg h2]
      match i, h with
      | 0, h => simp at h; subst h; exact List.mem_cons_self
      | i + 1, h =>
        refine List.mem_cons_of_mem _ ?_
        have := ent_args α r (j + 1) i v (by simpa using h)
        simpa [Nat.add_assoc, Nat.add_comm 1 i] using this
theorem nst_on {w : Cond} (h : nstM w) : w.onTables = true := by
  rcases h with ⟨a, i, x, h, rfl⟩ | ⟨a, i, b, n, d, h, rfl⟩ <;> rfl
theorem nst_warm {w : Cond} {s U : State} (hW : s.WarmedH U.vm) (h : nstM w) (hz : va_Nw w s) : va_Nw w U := by
  rcases h with ⟨a, i, x, h, rfl⟩ | ⟨a, i, b, n, d, h, rfl⟩
  · exact va_Nw.warmM hW hz
  · exact va_Nw.warmF hW hz
theorem ft_moved {G : Gx} {s U : State} {H : Heap} {locs : List Loc} (hN : ∀ w, nstM w → va_Nw w s → va_Nw w U) (h : Ft G s) (hU : U.heap = H) (hS : va_S G.2.2.2.1 s.heap H locs) (hvm : s.vm.Alike U.vm) : Ft G U := by
  obtain ⟨h0, h1, h2, h3, h4⟩ := h
  refine ⟨fun w hw hq => hN w hq (h0 w hw hq), va_K.moved hvm h1, fun o a b => ?_, ?_, ?_⟩
  · have := (h2 o a b).kept (H1 := U.heap) (fun q q1 q2 => by rw [hU]; exact hS.2.1 q q1 q2)
    exact va_T.moved hvm this
  · exact va_Z.moved hvm (h3.kept (H1 := U.heap) (fun q q1 q2 => by rw [hU]; exact hS.2.1 q q1 q2))
  · exact va_Z.moved hvm (h4.kept (H1 := U.heap) (fun q q1 q2 => by rw [hU]; exact hS.2.1 q q1 q2))
set_option maxHeartbeats 4000000 in
theorem met_of {l : Launch} {G : Gx} {M : Mt} {d : Nat} {as : List Value} {σ : Sg} {Q : Option Value → Sg → Prop} (hy : plainName M.1.cls = true) (hlen : (lg_sl (as.map (rv G.1))).length ≤ M.2.2.1) (hz : Z l G M d 0 (ent as) [] σ Q) : Met l M.1 (wsM M) (rmd d) (PcZ G as σ) (QcZ G Q) 0 0 G.2.2.2.1 := by
  refine Met.ofW (cc := M.2.1) (maxL := M.2.2.1) (ret := M.2.2.2) hy rfl ?_
  intro p e s m args below meth c s₁ B hml hv
  obtain ⟨rfl, hP, hD, hF⟩ := hv
  have hts := atoms_spec (ws := wsM M) B.pre
  have hlocks := B.notSynchronized
  have hl := lv_entry (as.map (rv G.1)) (n := M.2.2.1) hlen
  rw [lg_entry_eq]
  refine hz p e _ s m _ below meth c s.heap [] 0 0 _ _ ⟨B.exec, B.bytes, hml, findClass_of_methodNamed B.named, fun w hw => hts w (List.mem_cons_of_mem _ hw), hF, Nat.le_refl _, Nat.le_refl _, Nat.zero_le _, Nat.zero_le _, ?_⟩ ⟨hP, hD, va_S.rf⟩ ⟨hl.1, hl.2.1, fun i v h => hl.2.2 (i, rv G.1 v) (by simpa using ent_args G.1 as 0 i v h)⟩
  intro pc v σ' H locs ls hq hR hrt
  have hfree : ∀ q ∈ locs, G.2.2.2.1 q.base := hR.2.2.2.2
  have hqc : ∀ t : State, t.heap = H → s.WarmedH t.vm → QcZ G Q (as.map (rv G.1)).toArray s (.returned (v.map (rv G.1))) t := fun t ht hW => ⟨⟨v, σ', rfl, hq, by rw [ht]; exact hR.1, hR.2.1⟩, hR.2.2.F ht⟩
  cases v with
  | none =>
    obtain ⟨h1, h2⟩ := hrt
    exact W.vret B.exec B.bytes (B.returns.trans h2) hqc hfree h1
  | some v =>
    cases v with
    | int x =>
      obtain ⟨h1, ty, h2, h3⟩ := hrt
      exact W.zret B.exec B.bytes (B.returns.trans h2) h3 hqc hfree h1
    | long x =>
      obtain ⟨h1, h2⟩ := hrt
      exact W.lret B.exec B.bytes (B.returns.trans h2) hqc hfree h1
    | ref a =>
      obtain ⟨h1, ty, h2, h3⟩ := hrt
      exact W.aret B.exec B.bytes (B.returns.trans h2) h3 (Or.inr ⟨_, rfl⟩) hqc hfree h1
    | float _ => exact absurd hrt (by simp [Rt])
    | double _ => exact absurd hrt (by simp [Rt])
    | null => exact absurd hrt (by simp [Rt])
    | retAddr _ => exact absurd hrt (by simp [Rt])
theorem pcz_blind {G : Gx} {as : List Value} {σ : Sg} : FrameBlind (PcZ G as σ) := by
  intro a U g mk h
  obtain ⟨h1, h2, h3, h4⟩ := h
  exact ⟨h1, h2, h3, ft_moved (s := U) (U := U.calling g mk a) (locs := []) (fun w hw hz => va_Nw.same (u := U) (nst_on hw) rfl hz) h4 rfl va_S.rf (Vm.Alike.refl U.vm)⟩
theorem gi_M {M : Mt} (h : Cond.code M.1 M.2.1 M.2.2.1 M.2.2.2 ∈ lw_tbl) : GoodIn gtb (wsM M) := by
  intro w hw
  have hm : w ∈ gtb := by
    rcases List.mem_cons.mp hw with rfl | hw
    · exact gtb_of h rfl
    · exact hw
  exact ⟨hm, good_of_word (List.mem_filter.mp hm).2⟩
/-- a call of an instance method of class ci, as a method of class own links it -/
def CV (own : String) (idx : Nat) (M : Mt) (ci n : Nat) : Prop := Cond.code M.1 M.2.1 M.2.2.1 M.2.2.2 ∈ lw_tbl ∧ Cond.methodLink own idx M.1 ∈ lw_tbl ∧ Cond.instanceMethod M.1 ∈ lw_tbl ∧ Cond.selects M.1.cls M.1 M.1 ∈ lw_tbl ∧ Cond.initialized M.1.cls ∈ lw_tbl ∧ (∃ q, vwCl[ci]? = some q ∧ q.1 = M.1.cls) ∧ plainName M.1.cls = true ∧ M.1.cls ≠ "java/lang/invoke/MethodHandle" ∧ M.1.cls ≠ "java/lang/invoke/VarHandle" ∧ (parseMethodDescriptor M.1.desc).map (fun d => d.parameters.length) = some n ∧ M.2.2.1 ≤ 45
/-- a call of a static method -/
def CS (own : String) (idx : Nat) (M : Mt) (n : Nat) : Prop := Cond.code M.1 M.2.1 M.2.2.1 M.2.2.2 ∈ lw_tbl ∧ Cond.static M.1 ∈ lw_tbl ∧ Cond.initialized M.1.cls ∈ lw_tbl ∧ plainName M.1.cls = true ∧ M.1.cls ≠ "java/lang/invoke/MethodHandle" ∧ M.1.cls ≠ "java/lang/invoke/VarHandle" ∧ (parseMethodDescriptor M.1.desc).map (fun d => d.parameters.length) = some n ∧ M.2.2.1 ≤ 45 ∧ (Cond.methodLink own idx M.1 ∈ lw_tbl ∨ ∃ host, Cond.methodLinkNest own idx M.1 host ∈ lw_tbl)
/-- what comes upon the stack -/
def psh (v : Option Value) (st : List Value) : List Value := match v with
  | none => st
  | some x => x :: st
section ZC
variable {l : Launch} {G : Gx} {M : Mt} {d pc : Nat} {L : Lc} {st : List Value} {σ : Sg} {Q : Option Value → Sg → Prop}
theorem z_after {p : Program} {e : Env} {R : Room} {s : State} {m : MethodId} {args : Array Value} {below : List Frame} {meth : Method} {c : Code} {H : Heap} {locs : List Loc} {cells slots : Nat} {Qf : State → Prop} {ls : Array Slot} {st0 : List Value} {a : Array Value}
    (hr : va_Run p l e R s m args below meth c H locs cells slots 0 0 (F0 m pc ls st0) (st.map (rv G.1)) (QcZ G (fun v σ' => Z l G M d (pc + 3) L (psh v st) σ' Q) a) G.2.2.2.1) (C : Cx l G M d Q p e R s m args below meth c cells slots Qf) (hR : RH G σ s.heap H locs) (hl : lhas G.1 L M.2.2.1 ls) : W p l e R s m args below meth c H locs cells slots Qf (F0 m pc ls st0) := by
  intro T hT X
  obtain ⟨v, st₀, t, T', L1, h0, X', hL, e1, e2, ⟨⟨w, σ', hv, hq, hP, hD⟩, hz, hk⟩, go⟩ := hr T hT X
  cases hv
  rw [h0] at hz hk
  have hS : va_S G.2.2.2.1 s.heap T'.heap (locs ++ L1) := ⟨Nat.le_trans hR.2.2.1 (by rw [e1]; exact hz), fun q h1 h2 => by rw [e1, hk q (Nat.lt_of_lt_of_le h1 hR.2.2.1) h2]; exact hR.2.2.2.1 q h1 h2, fun q hq => by
      rcases List.mem_append.mp hq with h | h
      · exact hR.2.2.2.2 q h
      · exact hL q h⟩
  obtain ⟨t2, a1, b1⟩ := hq p e R s m args below meth c T'.heap (locs ++ L1) cells slots Qf ls C ⟨by rw [e1]; exact hP, hD, hS⟩ hl T' rfl X'
  refine ⟨t2, go t2 ?_, b1⟩
  have : (w.map (rv G.1)).toList ++ st.map (rv G.1) = (psh w st).map (rv G.1) := by cases w <;> rfl
  show Steps p.tables e below (T'.setTop (F0 m (pc + 3) ls ((w.map (rv G.1)).toList ++ st.map (rv G.1)))) t2
  rw [this]
  exact a1
set_option maxHeartbeats 4000000 in
theorem z_iv {idx o ci n : Nat} {M' : Mt} (As : List Value) (hd : decode M.2.1 pc = .ok (.invokevirtual idx, 3)) (hc : CV M.1.cls idx M' ci n) (ho : kd o = ci) (hn : o < 105) (hci : ci < 12) (hA : As.length = n) (hsl : Nat.ble ((ent (.ref o :: As)).length) M'.2.2.1 = true) (hW : Nat.ble ((st.map fun v => v.category).sum) 8 = true)
    (k : Z l G M' d 0 (ent (.ref o :: As)) [] σ (fun v σ' => Z l G M (d + 1) (pc + 3) L (psh v st) σ' Q)) : Z l G M (d + 1) pc L (As.reverse ++ .ref o :: st) σ Q := by
  intro p e R s m args below meth c H locs cells slots Qf ls C hR hl
  obtain ⟨c1, c2, c3, c4, c5, ⟨q, c6, c6'⟩, c7, c8, c9, c10, c11⟩ := hc
  have hlen : ∀ as : List Value, (lg_sl (as.map (rv G.1))).length = (ent as).length := by
    intro as
    induction as with
    | nil => rfl
    | cons w r ih =>
      have hcat := rv_cat G.1 w
      by_cases h2 : w.category = 2
      · have he : ent (w :: r) = some w :: none :: ent r := by simp [ent, h2]
        rw [he]
        show (lg_sl (rv G.1 w :: r.map (rv G.1))).length = _
        simp only [lg_sl, List.flatMap_cons, hcat, h2, if_true, List.length_append, List.length_cons, List.length_nil] at ih ⊢
        omega
      · have he : ent (w :: r) = some w :: ent r := by
          rw [ent]
          split
          · rename_i hh; exact absurd hh h2
          · rfl
        rw [he]
        show (lg_sl (rv G.1 w :: r.map (rv G.1))).length = _
        simp only [lg_sl, List.flatMap_cons, hcat, h2, if_false, List.length_append, List.length_cons, List.length_nil] at ih ⊢
        omega
  have hM := met_of (l := l) (G := G) (M := M') (d := d) (as := .ref o :: As) c7 (by rw [hlen]; exact Nat.le_of_ble_eq_true hsl) k
  have hts := C.2.2.2.2.1
  have hcb : CallB R s args M.1.cls idx M'.1 M'.2.1 M'.2.2.1 M'.2.2.2 (wsM M') (rmd d) 0 0 n := callB_of n hts (gi_M c1) rfl rfl rfl (hts _ (gtb_of c5 rfl)) (hts _ (gtb_of c2 rfl)) ⟨c8, c9, c10⟩ ⟨by have := C.2.2.2.2.2.2.1; simp only [rmd]; omega, by have := C.2.2.2.2.2.2.2.1; simp only [rmd]; omega⟩
  have hq0 : (wsG G σ)[o]? = some (G.1 o, .inr (ci, (List.range (nfl ci)).map (fun k => rv G.1 (fvl σ o ci k)))) := ws_at hn |>.trans (by rw [cel_o ho hci])
  refine z_after (st := st) (a := ((.ref o :: As).map (rv G.1)).toArray) ?_ C hR hl
  have hrun := va_runV (l := l) (e := e) (below := below) (meth := meth) (H := H) (locs := locs) (cells := cells) (slots := slots) (C := M'.1.cls) (b := G.1 o) (As := As.map (rv G.1)) (rest := st.map (rv G.1)) (g := F0 m pc ls ((As.reverse ++ .ref o :: st).map (rv G.1))) (n := n) (mc := 0) (ms := 0) (S := ⟨C.1, C.2.1, C.2.2.1, C.2.2.2.1, hts⟩) hM ⟨hcb, hts _ (gtb_of c3 rfl), hts _ (gtb_of c4 rfl)⟩ ⟨pcz_blind, by rw [← c6']; exact va_recv C.2.2.2.2.2.1.2.1 hR.1 c6 hq0, fun U hU hW => ⟨rfl, by rw [hU]; exact hR.1, hR.2.1, ft_moved (fun w hw hz => nst_warm hW hw hz) C.2.2.2.2.2.1 hU hR.2.2 hW.alike⟩⟩ rfl (by simpa using hA) hl.1 (by simp [rv]) (by
      have := Nat.le_of_ble_eq_true hW
      exact lv_room (by rw [rv_cats]; exact this)) hd ⟨C.2.2.2.2.2.2.2.2.1, C.2.2.2.2.2.2.2.2.2.1⟩
  exact hrun
end ZC
