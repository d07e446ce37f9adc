/-! fields and arrays -/
/-- a field of a class, as a method of class own links it at place idx -/
def FL (own : String) (idx ci k : Nat) : Prop := ∃ q : vw_C, vwCl[ci]? = some q ∧ k < q.2.2 ∧ Cond.fieldLink own idx (q.2.1 k).1 (q.2.1 k).2.1 (q.2.1 k).2.2.1 ∈ lw_tbl
/-- what the tables say of a class -/
def CLs (ci : Nat) : Prop := ∃ (q : vw_C) (ty : Nat → FieldType), vwCl[ci]? = some q ∧ (∀ w ∈ u_ws q.1 q.2.1 q.2.2, w ∈ lw_tbl) ∧ (∀ k, k < q.2.2 → parseFieldDescriptor (q.2.1 k).2.2.1 = some (ty k)) ∧ (∀ a, a < q.2.2 → ∀ b, b < q.2.2 → a ≠ b → (q.2.1 a).2.1 ≠ (q.2.1 b).2.1) ∧ nfl ci = q.2.2 ∧
  ∀ k, k < q.2.2 → (fty ci k = 0 → ty k = .int ∧ (q.2.1 k).2.2.2 = false) ∧ (fty ci k = 1 → ty k = .long ∧ (q.2.1 k).2.2.2 = false) ∧ (fty ci k = 3 → ty k = .boolean ∧ (q.2.1 k).2.2.2 = false)
set_option maxRecDepth 20000 in
theorem cl_0 : CLs 0 := ⟨_, tyX0, rfl, by decide +kernel, tyX0_ok, nmX0, rfl, by decide +kernel⟩
set_option maxRecDepth 20000 in
theorem cl_1 : CLs 1 := ⟨_, tyX1, rfl, by decide +kernel, tyX1_ok, nmX1, rfl, by decide +kernel⟩
set_option maxRecDepth 20000 in
theorem cl_2 : CLs 2 := ⟨_, tyX2, rfl, by decide +kernel, tyX2_ok, nmX2, rfl, by decide +kernel⟩
set_option maxRecDepth 20000 in
theorem cl_3 : CLs 3 := ⟨_, tyX3, rfl, by decide +kernel, tyX3_ok, nmX3, rfl, by decide +kernel⟩
set_option maxRecDepth 20000 in
theorem cl_4 : CLs 4 := ⟨_, tyX4, rfl, by decide +kernel, tyX4_ok, nmX4, rfl, by decide +kernel⟩
set_option maxRecDepth 20000 in
theorem cl_5 : CLs 5 := ⟨_, tyX5, rfl, by decide +kernel, tyX5_ok, nmX5, rfl, by decide +kernel⟩
set_option maxRecDepth 20000 in
theorem cl_6 : CLs 6 := ⟨_, tyX6, rfl, by decide +kernel, tyX6_ok, nmX6, rfl, by decide +kernel⟩
set_option maxRecDepth 20000 in
theorem cl_7 : CLs 7 := ⟨_, tyX7, rfl, by decide +kernel, tyX7_ok, nmX7, rfl, by decide +kernel⟩
set_option maxRecDepth 20000 in
theorem cl_8 : CLs 8 := ⟨_, tyX8, rfl, by decide +kernel, tyX8_ok, nmX8, rfl, by decide +kernel⟩
set_option maxRecDepth 20000 in
theorem cl_9 : CLs 9 := ⟨_, tyX9, rfl, by decide +kernel, tyX9_ok, nmX9, rfl, by decide +kernel⟩
set_option maxRecDepth 20000 in
theorem cl_10 : CLs 10 := ⟨_, tyX10, rfl, by decide +kernel, tyX10_ok, nmX10, rfl, by decide +kernel⟩
set_option maxRecDepth 20000 in
theorem cl_11 : CLs 11 := ⟨_, tyX11, rfl, by decide +kernel, tyX11_ok, nmX11, rfl, by decide +kernel⟩
theorem cls_all {ci : Nat} (h : ci < 12) : CLs ci := by
  match ci, h with
  | 0, _ => exact cl_0
  | 1, _ => exact cl_1
  | 2, _ => exact cl_2
  | 3, _ => exact cl_3
  | 4, _ => exact cl_4
  | 5, _ => exact cl_5
  | 6, _ => exact cl_6
  | 7, _ => exact cl_7
  | 8, _ => exact cl_8
  | 9, _ => exact cl_9
  | 10, _ => exact cl_10
  | 11, _ => exact cl_11
  | n + 12, h => omega
theorem u_good {C : String} {T : u_T} {N : Nat} {w : Cond} (h : w ∈ u_ws C T N) : goodWord w = true := by
  unfold u_ws at h
  obtain ⟨k, -, rfl⟩ := List.mem_map.mp h
  unfold u_lay
  split <;> rfl
theorem ws_at {G : Gx} {σ : Sg} {o : Nat} (h : o < 105) : (wsG G σ)[o]? = some (G.1 o, cel G σ o) := by
  unfold wsG
  rw [List.getElem?_map, List.getElem?_range h]
  rfl
/-- the list of cells behind a write to object o alone -/
theorem ws_set {G : Gx} {σ σ' : Sg} {o : Nat} {x : va_E} (ho : cel G σ' o = x) (hn : ∀ a, a ≠ o → cel G σ' a = cel G σ a) : (wsG G σ).set o (G.1 o, x) = wsG G σ' := by
  apply List.ext_getElem?
  intro i
  by_cases hi : i = o
  · subst hi
    rw [List.getElem?_set]
    unfold wsG
    simp only [if_true, List.length_map, List.length_range, List.getElem?_map]
    by_cases h : i < 105
    · rw [if_pos h, List.getElem?_range h]; simp [ho]
    · rw [if_neg h, List.getElem?_eq_none (by simp; omega)]; rfl
  · rw [List.getElem?_set_ne (fun e => hi e.symm)]
    unfold wsG
    rw [List.getElem?_map, List.getElem?_map]
    by_cases h : i < 105
    · rw [List.getElem?_range h]; simp [hn i hi]
    · rw [List.getElem?_eq_none (by simp; omega)]; rfl
/-- an int of the store becomes v -/
def uI (σ : Sg) (o k : Nat) (v : Int32) : Sg := (fun a b => if a = o then (if b = k then v else σ.1 a b) else σ.1 a b, σ.2)
/-- a long of the store becomes v -/
def uJ (σ : Sg) (o k : Nat) (v : Int64) : Sg := (σ.1, fun a b => if a = o then (if b = k then v else σ.2 a b) else σ.2 a b)
theorem uI_2 (σ : Sg) (o k : Nat) (v : Int32) : (uI σ o k v).2 = σ.2 := rfl
theorem uJ_1 (σ : Sg) (o k : Nat) (v : Int64) : (uJ σ o k v).1 = σ.1 := rfl
theorem uI_eq (σ : Sg) (o k : Nat) (v : Int32) : (uI σ o k v).1 o k = v := by simp [uI]
theorem uI_no {σ : Sg} {o k : Nat} {v : Int32} {a b : Nat} (h : a ≠ o) : (uI σ o k v).1 a b = σ.1 a b := by simp [uI, h]
theorem uI_nk {σ : Sg} {o k : Nat} {v : Int32} {a b : Nat} (h : b ≠ k) : (uI σ o k v).1 a b = σ.1 a b := by simp [uI, h]
theorem uJ_eq (σ : Sg) (o k : Nat) (v : Int64) : (uJ σ o k v).2 o k = v := by simp [uJ]
theorem uJ_no {σ : Sg} {o k : Nat} {v : Int64} {a b : Nat} (h : a ≠ o) : (uJ σ o k v).2 a b = σ.2 a b := by simp [uJ, h]
theorem uJ_nk {σ : Sg} {o k : Nat} {v : Int64} {a b : Nat} (h : b ≠ k) : (uJ σ o k v).2 a b = σ.2 a b := by simp [uJ, h]
theorem cel_o {G : Gx} {σ : Sg} {o ci : Nat} (h : kd o = ci) (hc : ci < 12) : cel G σ o = .inr (ci, (List.range (nfl ci)).map (fun k => rv G.1 (fvl σ o ci k))) := by
  unfold cel
  rw [h, if_pos hc]
theorem cel_J {G : Gx} {σ : Sg} {o : Nat} (h : kd o = 13) : cel G σ o = .inl (G.2.2.1 1, ln o, .inr (.inl (σ.2 o))) := by
  unfold cel
  rw [h, if_neg (by omega), if_pos rfl]
theorem cel_I {G : Gx} {σ : Sg} {o : Nat} (h : kd o = 12) : cel G σ o = .inl (G.2.2.1 0, ln o, .inl (σ.1 o)) := by
  unfold cel
  rw [h, if_neg (by omega), if_neg (by omega), if_pos (by omega)]
theorem cel_B {G : Gx} {σ : Sg} {o : Nat} (h : kd o = 14) : cel G σ o = .inl (G.2.2.1 2, ln o, .inl (σ.1 o)) := by
  unfold cel
  rw [h, if_neg (by omega), if_neg (by omega), if_pos (by omega)]
theorem cel_R {G : Gx} {σ : Sg} {o c : Nat} (h : kd o = 15 + c) : cel G σ o = .inl (G.2.2.1 (3 + c), ln o, .inr (.inr (.inr (.inr (fun i => some (G.1 (rfo o i))))))) := by
  unfold cel
  rw [h, if_neg (by omega), if_neg (by omega), if_neg (by omega), show 15 + c - 12 = 3 + c by omega]
/-- a cell reads nothing but its own slots -/
theorem cel_cong {G : Gx} {σ σ' : Sg} {a : Nat} (h1 : σ'.1 a = σ.1 a) (h2 : σ'.2 a = σ.2 a) : cel G σ' a = cel G σ a := by
  unfold cel
  rw [h1, h2]
  simp only [fvl, h1, h2]
theorem cel_uI {G : Gx} {σ : Sg} {o k a : Nat} {v : Int32} (h : a ≠ o) : cel G (uI σ o k v) a = cel G σ a := cel_cong (by funext b; exact uI_no h) rfl
theorem cel_uJ {G : Gx} {σ : Sg} {o k a : Nat} {v : Int64} (h : a ≠ o) : cel G (uJ σ o k v) a = cel G σ a := cel_cong rfl (by funext b; exact uJ_no h)
section ZH
variable {l : Launch} {G : Gx} {M : Mt} {d pc : Nat} {L : Lc} {st : List Value} {σ : Sg} {Q : Option Value → Sg → Prop}
theorem z_get {o idx ci k : Nat} (hd : decode M.2.1 pc = .ok (.getfield idx, 3)) (hf : FL M.1.cls idx ci k) (ho : kd o = ci) (hn : o < 105) (hc : ci < 12) (kk : Z l G M d (pc + 3) L (fvl σ o ci k :: st) σ Q) : Z l G M d pc L (.ref o :: st) σ Q := by
  intro p e R s m args below meth c H locs cells slots Qf ls C hR hl
  obtain ⟨q, h1, h2, h3⟩ := hf
  obtain ⟨q', ty, g1, g2, g3, g4, g5, g6⟩ := cls_all hc
  cases Option.some.inj (h1.symm.trans g1)
  refine va_get (C := q.1) (T := q.2.1) (N := q.2.2) C.1 C.2.1 C.2.2.2.2.1 (fun w hw => gtb_of (g2 w hw) (u_good hw)) C.2.2.2.1 C.2.2.2.2.2.1.2.1 hR.1 o (ws_at hn |>.trans (by rw [cel_o ho hc])) h1 k h2 (C.2.2.2.2.1 _ (gtb_of h3 rfl)) (fun _ h => h) (v := rv G.1 (fvl σ o ci k)) ?_ hd (kk p e R s m args below meth c H locs cells slots Qf ls C hR hl)
  rw [List.getElem?_map, List.getElem?_range (by rw [g5]; exact h2)]
  rfl
theorem z_getI {o idx ci k : Nat} (hd : decode M.2.1 pc = .ok (.getfield idx, 3)) (hf : FL M.1.cls idx ci k) (ho : kd o = ci) (hn : o < 105) (hc : ci < 12) (ht : fty ci k = 0 ∨ fty ci k = 3) (kk : Z l G M d (pc + 3) L (.int (σ.1 o k) :: st) σ Q) : Z l G M d pc L (.ref o :: st) σ Q := by
  refine z_get hd hf ho hn hc ?_
  have : fvl σ o ci k = .int (σ.1 o k) := by rcases ht with h | h <;> simp [fvl, h]
  rw [this]
  exact kk
theorem z_getJ {o idx ci k : Nat} (hd : decode M.2.1 pc = .ok (.getfield idx, 3)) (hf : FL M.1.cls idx ci k) (ho : kd o = ci) (hn : o < 105) (hc : ci < 12) (ht : fty ci k = 1) (kk : Z l G M d (pc + 3) L (.long (σ.2 o k) :: st) σ Q) : Z l G M d pc L (.ref o :: st) σ Q := by
  refine z_get hd hf ho hn hc ?_
  have : fvl σ o ci k = .long (σ.2 o k) := by simp [fvl, ht]
  rw [this]
  exact kk
theorem z_getR {o idx ci k t : Nat} (hd : decode M.2.1 pc = .ok (.getfield idx, 3)) (hf : FL M.1.cls idx ci k) (ho : kd o = ci) (hn : o < 105) (hc : ci < 12) (ht : fty ci k = 2) (hr : rfo o k = t) (kk : Z l G M d (pc + 3) L (.ref t :: st) σ Q) : Z l G M d pc L (.ref o :: st) σ Q := by
  refine z_get hd hf ho hn hc ?_
  have : fvl σ o ci k = .ref t := by simp [fvl, ht, hr]
  rw [this]
  exact kk
theorem fvl_uI {σ : Sg} {o ci k j : Nat} {v : Int32} (ht : fty ci k = 0 ∨ fty ci k = 3) : fvl (uI σ o k v) o ci j = if j = k then .int v else fvl σ o ci j := by
  by_cases h : j = k
  · subst h
    rw [if_pos rfl]
    rcases ht with h | h <;> simp [fvl, h, uI_eq]
  · rw [if_neg h]
    simp only [fvl, uI_nk h]
    rfl
theorem fvl_uJ {σ : Sg} {o ci k j : Nat} {v : Int64} (ht : fty ci k = 1) : fvl (uJ σ o k v) o ci j = if j = k then .long v else fvl σ o ci j := by
  by_cases h : j = k
  · subst h
    rw [if_pos rfl]
    simp [fvl, ht, uJ_eq]
  · rw [if_neg h]
    simp only [fvl, uJ_nk h]
    rfl
theorem map_set {n k : Nat} {f g : Nat → Value} {v : Value} (h : ∀ j, g j = if j = k then v else f j) : ((List.range n).map f).set k v = (List.range n).map g := by
  apply List.ext_getElem?
  intro i
  by_cases hi : i = k
  · subst hi
    rw [List.getElem?_set]
    simp only [if_true, List.length_map, List.length_range, List.getElem?_map]
    by_cases hh : i < n
    · rw [if_pos hh, List.getElem?_range hh]; simp [h]
    · rw [if_neg hh, List.getElem?_eq_none (by simp; omega)]; rfl
  · rw [List.getElem?_set_ne (fun e => hi e.symm), List.getElem?_map, List.getElem?_map]
    by_cases hh : i < n
    · rw [List.getElem?_range hh]; simp [h, hi]
    · rw [List.getElem?_eq_none (by simp; omega)]; rfl
theorem z_putI {o idx ci k : Nat} {v : Int32} (hd : decode M.2.1 pc = .ok (.putfield idx, 3)) (hf : FL M.1.cls idx ci k) (ho : kd o = ci) (hn : o < 105) (hc : ci < 12) (ht : fty ci k = 0) (kk : Z l G M d (pc + 3) L st (uI σ o k v) Q) : Z l G M d pc L (.int v :: .ref o :: st) σ Q := by
  intro p e R s m args below meth c H locs cells slots Qf ls C hR hl
  obtain ⟨q, h1, h2, h3⟩ := hf
  obtain ⟨q', ty, g1, g2, g3, g4, g5, g6⟩ := cls_all hc
  cases Option.some.inj (h1.symm.trans g1)
  refine va_put (C := q.1) (T := q.2.1) (N := q.2.2) C.1 C.2.1 C.2.2.2.2.1 (fun w hw => gtb_of (g2 w hw) (u_good hw)) ty g3 g4 C.2.2.2.1 C.2.2.2.2.2.1.2.1 hR.1 hR.2.1 hR.2.2 o (ws_at hn |>.trans (by rw [cel_o ho hc])) h1 k h2 (C.2.2.2.2.1 _ (gtb_of h3 rfl)) (fun _ h => h) ((g6 k h2).1 ht).2 (ty := .int) (v := .int v) (by rw [g3 k h2, ((g6 k h2).1 ht).1]) rfl rfl (by simp [g5]; exact h2) hd (fun H1 locs1 hP hD hS => ?_)
  have hw := ws_set (G := G) (σ := σ) (σ' := uI σ o k v) (o := o) (x := .inr (ci, ((List.range (nfl ci)).map (fun k => rv G.1 (fvl σ o ci k))).set k (.int v))) (by
    rw [cel_o ho hc, map_set (g := fun j => rv G.1 (fvl (uI σ o k v) o ci j))]
    intro j
    rw [fvl_uI (Or.inl ht)]
    split <;> rfl) (fun a ha => cel_uI ha)
  rw [hw] at hP hD
  exact kk p e R s m args below meth c H1 locs1 cells slots Qf ls C ⟨hP, hD, hS⟩ hl
theorem z_putB {o idx ci k : Nat} {v : Int32} (hd : decode M.2.1 pc = .ok (.putfield idx, 3)) (hf : FL M.1.cls idx ci k) (ho : kd o = ci) (hn : o < 105) (hc : ci < 12) (ht : fty ci k = 3) (hv : v = 0 ∨ v = 1) (kk : Z l G M d (pc + 3) L st (uI σ o k v) Q) : Z l G M d pc L (.int v :: .ref o :: st) σ Q := by
  intro p e R s m args below meth c H locs cells slots Qf ls C hR hl
  obtain ⟨q, h1, h2, h3⟩ := hf
  obtain ⟨q', ty, g1, g2, g3, g4, g5, g6⟩ := cls_all hc
  cases Option.some.inj (h1.symm.trans g1)
  refine va_put (C := q.1) (T := q.2.1) (N := q.2.2) C.1 C.2.1 C.2.2.2.2.1 (fun w hw => gtb_of (g2 w hw) (u_good hw)) ty g3 g4 C.2.2.2.1 C.2.2.2.2.2.1.2.1 hR.1 hR.2.1 hR.2.2 o (ws_at hn |>.trans (by rw [cel_o ho hc])) h1 k h2 (C.2.2.2.2.1 _ (gtb_of h3 rfl)) (fun _ h => h) ((g6 k h2).2.2 ht).2 (ty := .boolean) (v := .int v) (by rw [g3 k h2, ((g6 k h2).2.2 ht).1]) (by rcases hv with rfl | rfl <;> rfl) (by rcases hv with rfl | rfl <;> rfl) (by simp [g5]; exact h2) hd (fun H1 locs1 hP hD hS => ?_)
  have hw := ws_set (G := G) (σ := σ) (σ' := uI σ o k v) (o := o) (x := .inr (ci, ((List.range (nfl ci)).map (fun k => rv G.1 (fvl σ o ci k))).set k (.int v))) (by
    rw [cel_o ho hc, map_set (g := fun j => rv G.1 (fvl (uI σ o k v) o ci j))]
    intro j
    rw [fvl_uI (Or.inr ht)]
    split <;> rfl) (fun a ha => cel_uI ha)
  rw [hw] at hP hD
  exact kk p e R s m args below meth c H1 locs1 cells slots Qf ls C ⟨hP, hD, hS⟩ hl
theorem z_putJ {o idx ci k : Nat} {v : Int64} (hd : decode M.2.1 pc = .ok (.putfield idx, 3)) (hf : FL M.1.cls idx ci k) (ho : kd o = ci) (hn : o < 105) (hc : ci < 12) (ht : fty ci k = 1) (kk : Z l G M d (pc + 3) L st (uJ σ o k v) Q) : Z l G M d pc L (.long v :: .ref o :: st) σ Q := by
  intro p e R s m args below meth c H locs cells slots Qf ls C hR hl
  obtain ⟨q, h1, h2, h3⟩ := hf
  obtain ⟨q', ty, g1, g2, g3, g4, g5, g6⟩ := cls_all hc
  cases Option.some.inj (h1.symm.trans g1)
  refine va_put (C := q.1) (T := q.2.1) (N := q.2.2) C.1 C.2.1 C.2.2.2.2.1 (fun w hw => gtb_of (g2 w hw) (u_good hw)) ty g3 g4 C.2.2.2.1 C.2.2.2.2.2.1.2.1 hR.1 hR.2.1 hR.2.2 o (ws_at hn |>.trans (by rw [cel_o ho hc])) h1 k h2 (C.2.2.2.2.1 _ (gtb_of h3 rfl)) (fun _ h => h) ((g6 k h2).2.1 ht).2 (ty := .long) (v := .long v) (by rw [g3 k h2, ((g6 k h2).2.1 ht).1]) rfl rfl (by simp [g5]; exact h2) hd (fun H1 locs1 hP hD hS => ?_)
  have hw := ws_set (G := G) (σ := σ) (σ' := uJ σ o k v) (o := o) (x := .inr (ci, ((List.range (nfl ci)).map (fun k => rv G.1 (fvl σ o ci k))).set k (.long v))) (by
    rw [cel_o ho hc, map_set (g := fun j => rv G.1 (fvl (uJ σ o k v) o ci j))]
    intro j
    rw [fvl_uJ ht]
    split <;> rfl) (fun a ha => cel_uJ ha)
  rw [hw] at hP hD
  exact kk p e R s m args below meth c H1 locs1 cells slots Qf ls C ⟨hP, hD, hS⟩ hl
theorem z_iald {o : Nat} {i : Int32} (hd : decode M.2.1 pc = .ok (.iaload, 1)) (ho : kd o = 12) (hn : o < 105) (hi : vp_in i (ln o)) (kk : Z l G M d (pc + 1) L (.int (σ.1 o i.toNatClampNeg) :: st) σ Q) : Z l G M d pc L (.int i :: .ref o :: st) σ Q := by
  intro p e R s m args below meth c H locs cells slots Qf ls C hR hl
  exact va_iald C.1 C.2.1 C.2.2.2.2.2.1.2.1 hR.1 o 0 (ws_at hn |>.trans (by rw [cel_I ho])) rfl hi hd (kk p e R s m args below meth c H locs cells slots Qf ls C hR hl)
theorem z_zald {o : Nat} {i : Int32} (hd : decode M.2.1 pc = .ok (.baload, 1)) (ho : kd o = 14) (hn : o < 105) (hi : vp_in i (ln o)) (kk : Z l G M d (pc + 1) L (.int (σ.1 o i.toNatClampNeg) :: st) σ Q) : Z l G M d pc L (.int i :: .ref o :: st) σ Q := by
  intro p e R s m args below meth c H locs cells slots Qf ls C hR hl
  exact va_zald C.1 C.2.1 C.2.2.2.2.2.1.2.1 hR.1 o 2 (ws_at hn |>.trans (by rw [cel_B ho])) rfl hi hd (kk p e R s m args below meth c H locs cells slots Qf ls C hR hl)
theorem z_lald {o : Nat} {i : Int32} (hd : decode M.2.1 pc = .ok (.laload, 1)) (ho : kd o = 13) (hn : o < 105) (hi : vp_in i (ln o)) (kk : Z l G M d (pc + 1) L (.long (σ.2 o i.toNatClampNeg) :: st) σ Q) : Z l G M d pc L (.int i :: .ref o :: st) σ Q := by
  intro p e R s m args below meth c H locs cells slots Qf ls C hR hl
  exact va_lald C.1 C.2.1 C.2.2.2.2.2.1.2.1 hR.1 o 1 (ws_at hn |>.trans (by rw [cel_J ho])) rfl hi hd (kk p e R s m args below meth c H locs cells slots Qf ls C hR hl)
theorem z_aald {o t : Nat} {i : Int32} (hd : decode M.2.1 pc = .ok (.aaload, 1)) (ho : kd o = 15 ∨ kd o = 16) (hn : o < 105) (hi : vp_in i (ln o)) (hr : rfo o i.toNatClampNeg = t) (kk : Z l G M d (pc + 1) L (.ref t :: st) σ Q) : Z l G M d pc L (.int i :: .ref o :: st) σ Q := by
  intro p e R s m args below meth c H locs cells slots Qf ls C hR hl
  subst hr
  rcases ho with ho | ho
  · exact va_aldq (f := fun i => some (G.1 (rfo o i))) (C := "FurrowField$Bed") C.1 C.2.1 C.2.2.2.2.2.1.2.1 hR.1 o 3 (ws_at hn |>.trans (by rw [cel_R (c := 0) ho])) rfl hi hd (kk p e R s m args below meth c H locs cells slots Qf ls C hR hl)
  · exact va_aldq (f := fun i => some (G.1 (rfo o i))) (C := "FurrowField$Plant") C.1 C.2.1 C.2.2.2.2.2.1.2.1 hR.1 o 4 (ws_at hn |>.trans (by rw [cel_R (c := 1) ho])) rfl hi hd (kk p e R s m args below meth c H locs cells slots Qf ls C hR hl)
theorem upd_uI {σ : Sg} {o k : Nat} {v : Int32} : (uI σ o k v).1 o = upd (σ.1 o) k v := by
  funext b
  by_cases h : b = k <;> simp [uI, upd, h]
theorem upd_uJ {σ : Sg} {o k : Nat} {v : Int64} : (uJ σ o k v).2 o = vp_updL (σ.2 o) k v := by
  funext b
  by_cases h : b = k <;> simp [uJ, vp_updL, h]
theorem z_iast {o : Nat} {i v : Int32} (hd : decode M.2.1 pc = .ok (.iastore, 1)) (ho : kd o = 12) (hn : o < 105) (hi : vp_in i (ln o)) (kk : Z l G M d (pc + 1) L st (uI σ o i.toNatClampNeg v) Q) : Z l G M d pc L (.int v :: .int i :: .ref o :: st) σ Q := by
  intro p e R s m args below meth c H locs cells slots Qf ls C hR hl
  refine va_iast C.1 C.2.1 C.2.2.2.2.2.1.2.1 hR.1 hR.2.1 hR.2.2 o 0 (ws_at hn |>.trans (by rw [cel_I ho])) rfl hi hd (fun H1 locs1 hP hD hS => ?_)
  have hw := ws_set (G := G) (σ := σ) (σ' := uI σ o i.toNatClampNeg v) (o := o) (by rw [cel_I ho, upd_uI]) (fun a ha => cel_uI ha)
  rw [hw] at hP hD
  exact kk p e R s m args below meth c H1 locs1 cells slots Qf ls C ⟨hP, hD, hS⟩ hl
theorem z_zast {o : Nat} {i v : Int32} (hd : decode M.2.1 pc = .ok (.bastore, 1)) (ho : kd o = 14) (hn : o < 105) (hi : vp_in i (ln o)) (hv : v = 0 ∨ v = 1) (kk : Z l G M d (pc + 1) L st (uI σ o i.toNatClampNeg v) Q) : Z l G M d pc L (.int v :: .int i :: .ref o :: st) σ Q := by
  intro p e R s m args below meth c H locs cells slots Qf ls C hR hl
  refine va_zast C.1 C.2.1 C.2.2.2.2.2.1.2.1 hR.1 hR.2.1 hR.2.2 o 2 (ws_at hn |>.trans (by rw [cel_B ho])) rfl hi hd (fun H1 locs1 hP hD hS => ?_)
  have hnv : vp_nar .boolean v = v := by rcases hv with rfl | rfl <;> rfl
  rw [hnv] at hP hD
  have hw := ws_set (G := G) (σ := σ) (σ' := uI σ o i.toNatClampNeg v) (o := o) (by rw [cel_B ho, upd_uI]) (fun a ha => cel_uI ha)
  rw [hw] at hP hD
  exact kk p e R s m args below meth c H1 locs1 cells slots Qf ls C ⟨hP, hD, hS⟩ hl
theorem z_last {o : Nat} {i : Int32} {v : Int64} (hd : decode M.2.1 pc = .ok (.lastore, 1)) (ho : kd o = 13) (hn : o < 105) (hi : vp_in i (ln o)) (kk : Z l G M d (pc + 1) L st (uJ σ o i.toNatClampNeg v) Q) : Z l G M d pc L (.long v :: .int i :: .ref o :: st) σ Q := by
  intro p e R s m args below meth c H locs cells slots Qf ls C hR hl
  refine va_last C.1 C.2.1 C.2.2.2.2.2.1.2.1 hR.1 hR.2.1 hR.2.2 o 1 (ws_at hn |>.trans (by rw [cel_J ho])) rfl hi hd (fun H1 locs1 hP hD hS => ?_)
  have hw := ws_set (G := G) (σ := σ) (σ' := uJ σ o i.toNatClampNeg v) (o := o) (by rw [cel_J ho, upd_uJ]) (fun a ha => cel_uJ ha)
  rw [hw] at hP hD
  exact kk p e R s m args below meth c H1 locs1 cells slots Qf ls C ⟨hP, hD, hS⟩ hl
theorem z_alenI {o : Nat} (hd : decode M.2.1 pc = .ok (.arraylength, 1)) (ho : kd o = 12) (hn : o < 105) (kk : Z l G M d (pc + 1) L (.int (Int32.ofNat (ln o)) :: st) σ Q) : Z l G M d pc L (.ref o :: st) σ Q := by
  intro p e R s m args below meth c H locs cells slots Qf ls C hR hl
  exact va_alen (x := (ln o, .inl (σ.1 o))) C.1 C.2.1 C.2.2.2.2.2.1.2.1 hR.1 o 0 (ws_at hn |>.trans (by rw [cel_I ho])) rfl rfl hd (kk p e R s m args below meth c H locs cells slots Qf ls C hR hl)
/-- what is read and never written -/
theorem z_roald {o : Nat} {i : Int32} (hd : decode M.2.1 pc = .ok (.iaload, 1)) (h1 : 105 ≤ o) (h2 : o < 108) (hi : vp_in i (rol G o)) (kk : Z l G M d (pc + 1) L (.int (roc G o i.toNatClampNeg) :: st) σ Q) : Z l G M d pc L (.int i :: .ref o :: st) σ Q := by
  intro p e R s m args below meth c H locs cells slots Qf ls C hR hl
  exact va_ti C.1 C.2.1 (C.2.2.2.2.2.1.2.2.1 o h1 h2) hR.2.2 hi rfl hd (kk p e R s m args below meth c H locs cells slots Qf ls C hR hl)
theorem z_rolen {o : Nat} (hd : decode M.2.1 pc = .ok (.arraylength, 1)) (h1 : 105 ≤ o) (h2 : o < 108) (kk : Z l G M d (pc + 1) L (.int (Int32.ofNat (rol G o)) :: st) σ Q) : Z l G M d pc L (.ref o :: st) σ Q := by
  intro p e R s m args below meth c H locs cells slots Qf ls C hR hl
  exact va_tlen C.1 C.2.1 (C.2.2.2.2.2.1.2.2.1 o h1 h2) hR.2.2 rfl hd (kk p e R s m args below meth c H locs cells slots Qf ls C hR hl)
end ZH
