/-! constructors: a world of cells that grows. Values are the machine's own here. -/
def tyC (C : Nat → ClassId) : List (ClassId × FieldType) := [(C 0, .int), (C 1, .long), (C 2, .boolean), (C 3, .object "FurrowField$Bed"), (C 4, .object "FurrowField$Plant")]
def Fy (D : va_G) (C : Nat → ClassId) (s : State) : Prop := (∀ w ∈ lw_tbl, nstM w → va_Nw w s) ∧ va_K D vwCl (tyC C) s ∧ va_AO "FurrowField$Bed" s ∧ va_AO "FurrowField$Plant" s
def RY (D : va_G) (A : Nat → Prop) (w : va_W) (H0 H : Heap) (locs : List Loc) : Prop := va_P D vwCl w H ∧ va_D A w ∧ va_S A H0 H locs
abbrev Yq : Type := Nat → Lc → List Value → va_W → Nat → Nat → Prop
def Cy (l : Launch) (D : va_G) (C : Nat → ClassId) (M : Mt) (d K N : Nat) (Q : Yq) (p : Program) (e : Env) (R : Room) (s : State) (m : MethodId) (args : Array Value) (below : List Frame) (meth : Method) (c : Code) (A : Nat → Prop) (Qf : State → Prop) : Prop :=
  p.tables.exec = Jvm.exec ∧ c.code = M.2.1 ∧ c.maxLocals = M.2.2.1 ∧ s.vm.findClass M.1.cls = some m.cls ∧ (∀ w ∈ gtb, w.before args s = true) ∧ Fy D C s ∧ d ≤ R.frames ∧ 64 * d ≤ R.locals ∧ K ≤ R.cells ∧ N ≤ R.slots ∧ (M.1.name = "<init>" → meth.name = "<init>") ∧ (∀ q : Nat, s.heap.size ≤ q → A q) ∧
  ∀ (pc : Nat) (L : Lc) (st : List Value) (w : va_W) (k n : Nat) (H : Heap) (locs : List Loc) (ls : Array Slot), Q pc L st w k n → RY D A w s.heap H locs → lhas (fun x => x) L M.2.2.1 ls → W p l e R s m args below meth c H locs k n Qf (F0 m pc ls st)
/-- from here the method comes to a state of which Q holds; K cells of N slots may be made in all, k of n are -/
def Y (l : Launch) (D : va_G) (C : Nat → ClassId) (M : Mt) (d K N : Nat) (pc : Nat) (L : Lc) (st : List Value) (w : va_W) (k n : Nat) (Q : Yq) : Prop :=
  ∀ (p : Program) (e : Env) (R : Room) (s : State) (m : MethodId) (args : Array Value) (below : List Frame) (meth : Method) (c : Code) (H : Heap) (locs : List Loc) (Qf : State → Prop) (ls : Array Slot) (A : Nat → Prop),
    Cy l D C M d K N Q p e R s m args below meth c A Qf → RY D A w s.heap H locs → lhas (fun x => x) L M.2.2.1 ls → W p l e R s m args below meth c H locs k n Qf (F0 m pc ls st)
theorem rv_id (v : Value) : rv (fun x => x) v = v := by cases v <;> rfl
theorem rv_ids (st : List Value) : st.map (rv (fun x => x)) = st := by
  induction st with
  | nil => rfl
  | cons v r ih => rw [List.map_cons, rv_id, ih]
theorem ra_uniq {s : State} {a b : ClassId} {ty : FieldType} (h : va_RA s a ty) (g : va_RA s b ty) : a = b := by
  cases ty with
  | object C =>
    obtain ⟨_, _, _, _, _, h⟩ := h
    obtain ⟨_, _, _, _, _, g⟩ := g
    exact Option.some.inj (h.symm.trans g)
  | _ => exact Option.some.inj (Eq.trans (Eq.symm h) g)
/-- the default fields of a class -/
def dfl (ci : Nat) : List Value := (List.range (nfl ci)).map (fun k => match fty ci k with
  | 1 => .long 0
  | 2 => .null
  | _ => .int 0)
/-- a class of which objects are made, as a method of class own links it -/
def NWc (own : String) (idx ci : Nat) : Prop := ∃ (q : vw_C) (ty : Nat → FieldType), vwCl[ci]? = some q ∧ (∀ w ∈ u_ws q.1 q.2.1 q.2.2, w ∈ lw_tbl) ∧ (∀ k, k < q.2.2 → parseFieldDescriptor (q.2.1 k).2.2.1 = some (ty k)) ∧ (∀ j, j < q.2.2 → defaultValue (ty j) = vp_V (dfl ci) j) ∧ Cond.instantiable q.1 q.2.2 ∈ lw_tbl ∧ Cond.initialized q.1 ∈ lw_tbl ∧ nfl ci = q.2.2 ∧ Cond.classLink own idx q.1 ∈ lw_tbl
/-- a final reference of a class, as its constructor links it -/
def FFc (own : String) (idx ci k : Nat) : Prop := ∃ (q : vw_C) (ty0 : Nat → FieldType), vwCl[ci]? = some q ∧ (∀ w ∈ u_ws q.1 q.2.1 q.2.2, w ∈ lw_tbl) ∧ (∀ k, k < q.2.2 → parseFieldDescriptor (q.2.1 k).2.2.1 = some (ty0 k)) ∧ (∀ a, a < q.2.2 → ∀ b, b < q.2.2 → a ≠ b → (q.2.1 a).2.1 ≠ (q.2.1 b).2.1) ∧ k < q.2.2 ∧ Cond.fieldLink own idx (q.2.1 k).1 (q.2.1 k).2.1 (q.2.1 k).2.2.1 ∈ lw_tbl ∧ (q.2.1 k).2.2.2 = true ∧ (q.2.1 k).1 = own ∧ ∃ ty, parseFieldDescriptor (q.2.1 k).2.2.1 = some ty ∧ ∀ a, narrow ty (.ref a) = .ref a ∧ fits ty (.ref a) = true
section YO
variable {l : Launch} {D : va_G} {C : Nat → ClassId} {M : Mt} {d K N pc : Nat} {L : Lc} {st : List Value} {w : va_W} {k n : Nat} {Q : Yq}
theorem y_stop (h : Q pc L st w k n) : Y l D C M d K N pc L st w k n Q := by
  intro p e R s m args below meth c H locs Qf ls A c0 hR hl
  exact c0.2.2.2.2.2.2.2.2.2.2.2.2 pc L st w k n H locs ls h hR hl
theorem y_world {w' : va_W} (e : w = w') (kk : Y l D C M d K N pc L st w' k n Q) : Y l D C M d K N pc L st w k n Q := by
  rw [e]; exact kk
theorem y_sub {L' : Lc} (hs : lsub L' L) (kk : Y l D C M d K N pc L' st w k n Q) : Y l D C M d K N pc L st w k n Q := by
  intro p e R s m args below meth c H locs Qf ls A c0 hR hl
  exact kk p e R s m args below meth c H locs Qf ls A c0 hR ⟨hl.1, hl.2.1, fun i v h => hl.2.2 i v (lsub_get _ _ hs i v h)⟩
theorem y_iconst {i : Int} {v : Int32} (hd : decode M.2.1 pc = .ok (.iconst i, 1)) (hv : Int32.ofInt i = v) (kk : Y l D C M d K N (pc + 1) L (.int v :: st) w k n Q) : Y l D C M d K N pc L st w k n Q := by
  intro p e R s m args below meth c H locs Qf ls A c0 hR hl
  exact lv_iconst c0.1 c0.2.1 hd hv (kk p e R s m args below meth c H locs Qf ls A c0 hR hl)
theorem y_lconst {i : Fin 2} {v : Int64} (hd : decode M.2.1 pc = .ok (.lconst i, 1)) (hv : Int64.ofNat (i : Nat) = v) (kk : Y l D C M d K N (pc + 1) L (.long v :: st) w k n Q) : Y l D C M d K N pc L st w k n Q := by
  intro p e R s m args below meth c H locs Qf ls A c0 hR hl
  exact lv_lconst c0.1 c0.2.1 hd hv (kk p e R s m args below meth c H locs Qf ls A c0 hR hl)
theorem y_bipush {i : Int} {v : Int32} (hd : decode M.2.1 pc = .ok (.bipush i, 2)) (hv : (Int8.ofInt i).toInt32 = v) (kk : Y l D C M d K N (pc + 2) L (.int v :: st) w k n Q) : Y l D C M d K N pc L st w k n Q := by
  intro p e R s m args below meth c H locs Qf ls A c0 hR hl
  exact lv_bipush c0.1 c0.2.1 hd hv (kk p e R s m args below meth c H locs Qf ls A c0 hR hl)
theorem y_sipush {i : Int} {v : Int32} (hd : decode M.2.1 pc = .ok (.sipush i, 3)) (hv : (Int16.ofInt i).toInt32 = v) (kk : Y l D C M d K N (pc + 3) L (.int v :: st) w k n Q) : Y l D C M d K N pc L st w k n Q := by
  intro p e R s m args below meth c H locs Qf ls A c0 hR hl
  exact lv_sipush c0.1 c0.2.1 hd hv (kk p e R s m args below meth c H locs Qf ls A c0 hR hl)
theorem y_ldc {i : Nat} {v : Int32} (hd : decode M.2.1 pc = .ok (.ldc i, 2)) (hw : Cond.constant M.1.cls i v ∈ lw_tbl) (kk : Y l D C M d K N (pc + 2) L (.int v :: st) w k n Q) : Y l D C M d K N pc L st w k n Q := by
  intro p e R s m args below meth c H locs Qf ls A c0 hR hl
  exact lv_ldc c0.1 c0.2.1 c0.2.2.2.1 (c0.2.2.2.2.1 _ (gtb_of hw rfl)) hd (kk p e R s m args below meth c H locs Qf ls A c0 hR hl)
theorem y_iload_n {i : Fin 4} {x : Int32} (hd : decode M.2.1 pc = .ok (.iload_n i, 1)) (hv : L[(i : Nat)]? = some (some (.int x))) (kk : Y l D C M d K N (pc + 1) L (.int x :: st) w k n Q) : Y l D C M d K N pc L st w k n Q := by
  intro p e R s m args below meth c H locs Qf ls A c0 hR hl
  exact lv_iload_n c0.1 c0.2.1 hd rfl (hl.2.2 _ _ hv) (kk p e R s m args below meth c H locs Qf ls A c0 hR hl)
theorem y_aload_n {i : Fin 4} {x : Nat} (hd : decode M.2.1 pc = .ok (.aload_n i, 1)) (hv : L[(i : Nat)]? = some (some (.ref x))) (kk : Y l D C M d K N (pc + 1) L (.ref x :: st) w k n Q) : Y l D C M d K N pc L st w k n Q := by
  intro p e R s m args below meth c H locs Qf ls A c0 hR hl
  exact lv_aload_n c0.1 c0.2.1 hd rfl (hl.2.2 _ _ hv) (kk p e R s m args below meth c H locs Qf ls A c0 hR hl)
theorem y_istore_n {i : Fin 4} {x : Int32} {L' : Lc} (hd : decode M.2.1 pc = .ok (.istore_n i, 1)) (hn : Nat.blt ((i : Nat)) M.2.2.1 = true) (hok : okI L i = true) (hL : setI L i (.int x) = L') (kk : Y l D C M d K N (pc + 1) L' st w k n Q) : Y l D C M d K N pc L (.int x :: st) w k n Q := by
  intro p e R s m args below meth c H locs Qf ls A c0 hR hl
  refine lv_istore_n c0.1 c0.2.1 hd rfl hl.to (Nat.le_of_ble_eq_true hn) rfl (fun ls1 hl1 => ?_)
  exact kk p e R s m args below meth c H locs Qf ls1 A c0 hR (by rw [← hL]; exact lhas.of (lv_has_sub hl1 (setI_sub hok)))
theorem y_astore_n {i : Fin 4} {x : Nat} {L' : Lc} (hd : decode M.2.1 pc = .ok (.astore_n i, 1)) (hn : Nat.blt ((i : Nat)) M.2.2.1 = true) (hok : okI L i = true) (hL : setI L i (.ref x) = L') (kk : Y l D C M d K N (pc + 1) L' st w k n Q) : Y l D C M d K N pc L (.ref x :: st) w k n Q := by
  intro p e R s m args below meth c H locs Qf ls A c0 hR hl
  refine lv_astore_n c0.1 c0.2.1 hd rfl hl.to (Nat.le_of_ble_eq_true hn) rfl (fun ls1 hl1 => ?_)
  exact kk p e R s m args below meth c H locs Qf ls1 A c0 hR (by rw [← hL]; exact lhas.of (lv_has_sub hl1 (setI_sub hok)))
theorem y_iinc {i : Nat} {j : Int} {x v : Int32} {L' : Lc} (hd : decode M.2.1 pc = .ok (.iinc i j, 3)) (hx : L[i]? = some (some (.int x))) (hv : x + Int32.ofInt j = v) (hn : Nat.blt i M.2.2.1 = true) (hok : okI L i = true) (hL : setI L i (.int v) = L') (kk : Y l D C M d K N (pc + 3) L' st w k n Q) : Y l D C M d K N pc L st w k n Q := by
  intro p e R s m args below meth c H locs Qf ls A c0 hR hl
  obtain ⟨q, hq⟩ := List.getElem?_of_mem (lst_mem (α := fun x => x) (L := L) (q := (i, .int x)) |>.mpr ⟨_, hx, rfl⟩)
  refine lv_iinc c0.1 c0.2.1 hd hl.to hq hv (Nat.le_of_ble_eq_true hn) rfl (fun ls1 hl1 => ?_)
  exact kk p e R s m args below meth c H locs Qf ls1 A c0 hR (by rw [← hL]; exact lhas.of (lv_has_sub hl1 (setI_sub hok)))
theorem y_goto {off : Int} {tgt : Nat} (hd : decode M.2.1 pc = .ok (.goto off, 3)) (ht : (pc : Int) + off = (tgt : Int)) (kk : Y l D C M d K N tgt L st w k n Q) : Y l D C M d K N pc L st w k n Q := by
  intro p e R s m args below meth c H locs Qf ls A c0 hR hl
  exact lv_goto c0.1 c0.2.1 hd ht (kk p e R s m args below meth c H locs Qf ls A c0 hR hl)
theorem y_icmp_ge {x y : Int32} {off : Int} {tgt : Nat} (hd : decode M.2.1 pc = .ok (.if_icmp .ge off, 3)) (ht : (pc : Int) + off = (tgt : Int)) (kt : y ≤ x → Y l D C M d K N tgt L st w k n Q) (kf : ¬ y ≤ x → Y l D C M d K N (pc + 3) L st w k n Q) : Y l D C M d K N pc L (.int y :: .int x :: st) w k n Q := by
  intro p e R s m args below meth c H locs Qf ls A c0 hR hl
  exact lv_icmp_ge c0.1 c0.2.1 hd ht (fun hh => kt hh p e R s m args below meth c H locs Qf ls A c0 hR hl) (fun hh => kf hh p e R s m args below meth c H locs Qf ls A c0 hR hl)
theorem y_if_le {x : Int32} {off : Int} {tgt : Nat} (hd : decode M.2.1 pc = .ok (.ifCond .le off, 3)) (ht : (pc : Int) + off = (tgt : Int)) (kt : x ≤ 0 → Y l D C M d K N tgt L st w k n Q) (kf : ¬ x ≤ 0 → Y l D C M d K N (pc + 3) L st w k n Q) : Y l D C M d K N pc L (.int x :: st) w k n Q := by
  intro p e R s m args below meth c H locs Qf ls A c0 hR hl
  exact lv_if_le c0.1 c0.2.1 hd ht (fun hh => kt hh p e R s m args below meth c H locs Qf ls A c0 hR hl) (fun hh => kf hh p e R s m args below meth c H locs Qf ls A c0 hR hl)
theorem y_dup {v : Value} (hd : decode M.2.1 pc = .ok (.dup, 1)) (hv : v.category = 1) (kk : Y l D C M d K N (pc + 1) L (v :: v :: st) w k n Q) : Y l D C M d K N pc L (v :: st) w k n Q := by
  intro p e R s m args below meth c H locs Qf ls A c0 hR hl
  exact lv_dup c0.1 c0.2.1 hd hv (kk p e R s m args below meth c H locs Qf ls A c0 hR hl)
theorem y_objInit {idx a : Nat} (hd : decode M.2.1 pc = .ok (.invokespecial idx, 3)) (h1 : Cond.methodLink M.1.cls idx Lib.objectInit ∈ lw_tbl) (h2 : Cond.instanceMethod Lib.objectInit ∈ lw_tbl) (h3 : Cond.code Lib.objectInit ⟨#[0xb1]⟩ 1 none ∈ lw_tbl) (hW : Nat.ble ((st.map fun v => v.category).sum) 8 = true) (kk : Y l D C M (d + 1) K N (pc + 3) L st w k n Q) : Y l D C M (d + 1) K N pc L (.ref a :: st) w k n Q := by
  intro p e R s m args below meth c H locs Qf ls A c0 hR hl
  have hf := c0.2.2.2.2.2.2.1
  have hlo := c0.2.2.2.2.2.2.2.1
  have hts := c0.2.2.2.2.1
  have h8 := Nat.le_of_ble_eq_true hW
  refine W.objInit c0.1 c0.2.1 c0.2.2.2.1 (hts _ (gtb_of h1 rfl)) (hts _ (gtb_of h2 rfl)) (hts _ (gtb_of h3 rfl)) rfl (by rw [c0.2.2.1]; exact hl.1) rfl hd (by omega) (by show 2 * 0 + _ + 12 ≤ _; omega) ?_
  exact kk p e R s m args below meth c H locs Qf ls A c0 hR hl
theorem y_new {idx ci : Nat} (hd : decode M.2.1 pc = .ok (.new idx, 3)) (hc : NWc M.1.cls idx ci) (hk : k + 1 ≤ K) (hn : n + nfl ci ≤ N) (kk : ∀ q : Nat, Y l D C M d K N (pc + 3) L (.ref q :: st) (w ++ [(q, .inr (ci, dfl ci))]) (k + 1) (n + nfl ci) Q) : Y l D C M d K N pc L st w k n Q := by
  intro p e R s m args below meth c H locs Qf ls A c0 hR hl
  obtain ⟨q, ty, h1, h2, h3, h4, h5, h6, h7, h8⟩ := hc
  have hts := c0.2.2.2.2.1
  have hkR := c0.2.2.2.2.2.2.2.2.1
  have hnR := c0.2.2.2.2.2.2.2.2.2.1
  rw [h7] at kk hn
  refine va_new (C := q.1) (T := q.2.1) (N := q.2.2) (ci := ci) (fs := dfl ci) c0.1 c0.2.1 hts (fun w hw => gtb_of (h2 w hw) (u_good hw)) ty h3 c0.2.2.2.1 (hts _ (gtb_of h8 rfl)) (hts _ (gtb_of h5 rfl)) (hts _ (gtb_of h6 rfl)) c0.2.2.2.2.2.1.2.1 hR.1 hR.2.1 hR.2.2 c0.2.2.2.2.2.2.2.2.2.2.2.1 h1 h4 (by omega) (by omega) hd (fun q0 H1 hP hD hS => ?_)
  exact kk q0 p e R s m args below meth c H1 locs Qf ls A c0 ⟨hP, hD, hS⟩ hl
theorem y_newa {atype : ArrayType} {t Z : Nat} {cA : ClassId} {ty : FieldType} {a0 : vp_A} {x : Int32} (hd : decode M.2.1 pc = .ok (.newarray atype, 2)) (hw : Cond.arrayClass (newarray.typeOf atype) ∈ lw_tbl) (hty : newarray.typeOf atype = ty) (ht : (tyC C)[t]? = some (cA, ty)) (ha : ∀ cA : ClassId, vp_cell cA a0 = arrV cA Z (fun _ => defaultValue ty)) (hx : ¬ x < 0) (hZ : x.toNatClampNeg = Z) (hby : Z * componentBytes ty ≤ 536870912) (hk : k + 1 ≤ K) (hn : n + Z ≤ N) (kk : ∀ q : Nat, Y l D C M d K N (pc + 2) L (.ref q :: st) (w ++ [(q, .inl (cA, a0))]) (k + 1) (n + Z) Q) : Y l D C M d K N pc L (.int x :: st) w k n Q := by
  intro p e R s m args below meth c H locs Qf ls A c0 hR hl
  have hts := c0.2.2.2.2.1
  have hkR := c0.2.2.2.2.2.2.2.2.1
  have hnR := c0.2.2.2.2.2.2.2.2.2.1
  have hK := c0.2.2.2.2.2.1.2.1
  refine va_newa c0.1 c0.2.1 (hts _ (gtb_of hw rfl)) hty hK hR.1 hR.2.1 hR.2.2 c0.2.2.2.2.2.2.2.2.2.2.2.1 ha hx hZ hby (by omega) (by omega) hd (fun q0 cB H1 hK1 hP hD hS => ?_)
  have e1 := (hK1.2 5 (cB, ty) rfl).2
  have e2 := (hK.2 t _ ht).2
  have e3 := ra_uniq e1 e2
  subst e3
  exact kk q0 p e R s m args below meth c H1 locs Qf ls A c0 ⟨hP, hD, hS⟩ hl
theorem y_newq {idx t Z : Nat} {cA : ClassId} {B : String} {x : Int32} (hd : decode M.2.1 pc = .ok (.anewarray idx, 3)) (hw : Cond.classLink M.1.cls idx B ∈ lw_tbl) (hB : B = "FurrowField$Bed" ∨ B = "FurrowField$Plant") (ht : (tyC C)[t]? = some (cA, .object B)) (hx : ¬ x < 0) (hZ : x.toNatClampNeg = Z) (hby : Z * 4 ≤ 536870912) (hk : k + 1 ≤ K) (hn : n + Z ≤ N) (kk : ∀ q : Nat, Y l D C M d K N (pc + 3) L (.ref q :: st) (w ++ [(q, .inl (cA, Z, .inr (.inr (.inr (.inr (fun _ => none))))))]) (k + 1) (n + Z) Q) : Y l D C M d K N pc L (.int x :: st) w k n Q := by
  intro p e R s m args below meth c H locs Qf ls A c0 hR hl
  have hts := c0.2.2.2.2.1
  have hkR := c0.2.2.2.2.2.2.2.2.1
  have hnR := c0.2.2.2.2.2.2.2.2.2.1
  have hK := c0.2.2.2.2.2.1.2.1
  have hO : va_AO B s := by
    rcases hB with rfl | rfl
    · exact c0.2.2.2.2.2.1.2.2.1
    · exact c0.2.2.2.2.2.1.2.2.2
  refine va_newq c0.1 c0.2.1 c0.2.2.2.1 (hts _ (gtb_of hw rfl)) hO hK hR.1 hR.2.1 hR.2.2 c0.2.2.2.2.2.2.2.2.2.2.2.1 hx hZ hby (by omega) (by omega) hd (fun q0 cB H1 hK1 hP hD hS => ?_)
  have e1 := (hK1.2 5 (cB, .object B) rfl).2
  have e2 := (hK.2 t _ ht).2
  have e3 := ra_uniq e1 e2
  subst e3
  exact kk q0 p e R s m args below meth c H1 locs Qf ls A c0 ⟨hP, hD, hS⟩ hl
theorem y_putF {idx ci q0 kf a v : Nat} {fs : List Value} (hd : decode M.2.1 pc = .ok (.putfield idx, 3)) (hf : FFc M.1.cls idx ci kf) (hi : M.1.name = "<init>") (he : w[q0]? = some (a, .inr (ci, fs))) (hl0 : kf < fs.length) (kk : Y l D C M d K N (pc + 3) L st (w.set q0 (a, .inr (ci, fs.set kf (.ref v)))) k n Q) : Y l D C M d K N pc L (.ref v :: .ref a :: st) w k n Q := by
  intro p e R s m args below meth c H locs Qf ls A c0 hR hl
  obtain ⟨q, ty0, h1, h2, h3, h4, h5, h6, h7, h8, ty, h9, h10⟩ := hf
  have hts := c0.2.2.2.2.1
  refine va_putF (C := q.1) (T := q.2.1) (N := q.2.2) (ci := ci) (v := .ref v) (ty := ty) c0.1 c0.2.1 hts (fun w hw => gtb_of (h2 w hw) (u_good hw)) ty0 h3 h4 c0.2.2.2.1 c0.2.2.2.2.2.1.2.1 hR.1 hR.2.1 hR.2.2 q0 he h1 kf h5 (hts _ (gtb_of h6 rfl)) (fun _ h => h) h7 (c0.2.2.2.2.2.2.2.2.2.2.1 hi) h8 h9 (h10 v).1 (h10 v).2 hl0 hd (fun H1 locs1 hP hD hS => ?_)
  exact kk p e R s m args below meth c H1 locs1 Qf ls A c0 ⟨hP, hD, hS⟩ hl
theorem y_put {idx ci q0 kf a : Nat} {v : Value} {fs : List Value} (hd : decode M.2.1 pc = .ok (.putfield idx, 3)) (hf : FL M.1.cls idx ci kf) (hc : ci < 12) (hty : (fty ci kf = 0 ∧ ∃ x, v = .int x) ∨ (fty ci kf = 1 ∧ ∃ x, v = .long x)) (he : w[q0]? = some (a, .inr (ci, fs))) (hl0 : kf < fs.length) (kk : Y l D C M d K N (pc + 3) L st (w.set q0 (a, .inr (ci, fs.set kf v))) k n Q) : Y l D C M d K N pc L (v :: .ref a :: st) w k n Q := by
  intro p e R s m args below meth c H locs Qf ls A c0 hR hl
  obtain ⟨q, h1, h2, h3⟩ := hf
  obtain ⟨q', ty, g1, g2, g3, g4, g5, g6⟩ := cls_all hc
  cases Option.some.inj (h1.symm.trans g1)
  have hts := c0.2.2.2.2.1
  have hfin : (q.2.1 kf).2.2.2 = false := by
    rcases hty with ⟨h, _⟩ | ⟨h, _⟩
    · exact ((g6 kf h2).1 h).2
    · exact ((g6 kf h2).2.1 h).2
  have hn1 : narrow (ty kf) v = v ∧ fits (ty kf) v = true := by
    rcases hty with ⟨h, x, rfl⟩ | ⟨h, x, rfl⟩
    · rw [((g6 kf h2).1 h).1]; exact ⟨rfl, rfl⟩
    · rw [((g6 kf h2).2.1 h).1]; exact ⟨rfl, rfl⟩
  refine va_put (C := q.1) (T := q.2.1) (N := q.2.2) (ci := ci) (v := v) (ty := ty kf) c0.1 c0.2.1 hts (fun w hw => gtb_of (g2 w hw) (u_good hw)) ty g3 g4 c0.2.2.2.1 c0.2.2.2.2.2.1.2.1 hR.1 hR.2.1 hR.2.2 q0 he h1 kf h2 (hts _ (gtb_of h3 rfl)) (fun _ h => h) hfin (g3 kf h2) hn1.1 hn1.2 hl0 hd (fun H1 locs1 hP hD hS => ?_)
  exact kk p e R s m args below meth c H1 locs1 Qf ls A c0 ⟨hP, hD, hS⟩ hl
theorem y_get {idx ci q0 kf a : Nat} {v : Value} {fs : List Value} (hd : decode M.2.1 pc = .ok (.getfield idx, 3)) (hf : FL M.1.cls idx ci kf) (hc : ci < 12) (he : w[q0]? = some (a, .inr (ci, fs))) (hv : fs[kf]? = some v) (kk : Y l D C M d K N (pc + 3) L (v :: st) w k n Q) : Y l D C M d K N pc L (.ref a :: st) w k n Q := by
  intro p e R s m args below meth c H locs Qf ls A c0 hR hl
  obtain ⟨q, h1, h2, h3⟩ := hf
  obtain ⟨q', ty, g1, g2, g3, g4, g5, g6⟩ := cls_all hc
  cases Option.some.inj (h1.symm.trans g1)
  have hts := c0.2.2.2.2.1
  exact va_get (C := q.1) (T := q.2.1) (N := q.2.2) (ci := ci) (v := v) c0.1 c0.2.1 hts (fun w hw => gtb_of (g2 w hw) (u_good hw)) c0.2.2.2.1 c0.2.2.2.2.2.1.2.1 hR.1 q0 he h1 kf h2 (hts _ (gtb_of h3 rfl)) (fun _ h => h) hv hd (kk p e R s m args below meth c H locs Qf ls A c0 hR hl)
theorem y_ast {q0 t0 qk ci a v Z j : Nat} {cA : ClassId} {r : vw_C} {vs : List Value} {f : Nat → Option Nat} {i : Int32} (hd : decode M.2.1 pc = .ok (.aastore, 1)) (ha : w[q0]? = some (a, .inl (cA, Z, .inr (.inr (.inr (.inr f)))))) (ht : (tyC C)[t0]? = some (cA, .object r.1)) (hv : w[qk]? = some (v, .inr (ci, vs))) (hc : vwCl[ci]? = some r) (hi : i.toInt = (j : Int)) (hj : j < Z) (kk : Y l D C M d K N (pc + 1) L st (w.set q0 (a, .inl (cA, Z, .inr (.inr (.inr (.inr (va_up f j (some v)))))))) k n Q) : Y l D C M d K N pc L (.ref v :: .int i :: .ref a :: st) w k n Q := by
  intro p e R s m args below meth c H locs Qf ls A c0 hR hl
  refine va_astq c0.1 c0.2.1 c0.2.2.2.2.2.1.2.1 hR.1 hR.2.1 hR.2.2 q0 t0 qk ci ha ht hv hc (zin_of hi hj) hd (fun H1 locs1 hP hD hS => ?_)
  rw [zclamp hi] at hP hD
  exact kk p e R s m args below meth c H1 locs1 Qf ls A c0 ⟨hP, hD, hS⟩ hl
end YO
/-- behind a constructor's call: the cells ahead are as they were -/
theorem join_last {A : Nat → Prop} {D : va_G} {R w1 : va_W} {x : Nat × va_E} {H H1 : Heap} (hP : va_P D vwCl (R ++ [x]) H) (hD : va_D A (R ++ [x])) (hA : ∀ q : Nat, va_A [x] H.size q → A q) (hk : ∀ q : Nat, q < H.size → ¬ va_A [x] H.size q → H1[q]? = H[q]?) (hP1 : va_P D vwCl w1 H1) (hD1 : va_D (va_A [x] H.size) w1) : va_P D vwCl (R ++ w1) H1 ∧ va_D A (R ++ w1) := by
  have inR : ∀ (i : Nat) (y : Nat × va_E), R[i]? = some y → (R ++ [x])[i]? = some y := fun i y h => by
    rw [List.getElem?_append_left (List.getElem?_eq_some_iff.mp h).1]; exact h
  have hx : (R ++ [x])[R.length]? = some x := by simp
  have hno : ∀ (i : Nat) (y : Nat × va_E), R[i]? = some y → ¬ va_A [x] H.size y.1 := by
    intro i y h ha
    have hlt := (List.getElem?_eq_some_iff.mp h).1
    rcases ha with ⟨k, e, hk⟩ | ha
    · have hk0 : k = 0 := by have := (List.getElem?_eq_some_iff.mp hk).1; simp at this; exact this
      subst hk0
      simp at hk
      have := hD.1 i R.length y x (inR i y h) hx (by rw [hk])
      omega
    · have := (hP i y (inR i y h)).lt
      omega
  have hPR : va_P D vwCl R H1 := fun i y h => (hP i y (inR i y h)).kept (hk y.1 ((hP i y (inR i y h)).lt) (hno i y h))
  have hDR : va_D A R := ⟨fun i j p q h1 h2 e => hD.1 i j p q (inR i p h1) (inR j q h2) e, fun i q h => hD.2 i q (inR i q h)⟩
  refine ⟨hPR.app hP1, va_D.app hDR (hD1.weaken (fun i q _ h => hA q.1 h)) (fun i j p q h1 h2 e => ?_)⟩
  exact hno i p h1 (by rw [e]; exact hD1.2 j q h2)
theorem fy_moved {D : va_G} {C : Nat → ClassId} {s U : State} (hN : ∀ w, nstM w → va_Nw w s → va_Nw w U) (h : Fy D C s) (hvm : s.vm.Alike U.vm) : Fy D C U := ⟨fun w hw hq => hN w hq (h.1 w hw hq), va_K.moved hvm h.2.1, va_AO.moved hvm h.2.2.1, va_AO.moved hvm h.2.2.2⟩
/-- a constructor, as a method of class own links it -/
def CI (own : String) (idx : Nat) (M : Mt) (n : Nat) : Prop := Cond.code M.1 M.2.1 M.2.2.1 M.2.2.2 ∈ lw_tbl ∧ Cond.instanceMethod M.1 ∈ lw_tbl ∧ Cond.initialized M.1.cls ∈ lw_tbl ∧ M.1.name = "<init>" ∧ M.2.2.2 = none ∧ plainName M.1.cls = true ∧ M.1.cls ≠ "java/lang/invoke/MethodHandle" ∧ M.1.cls ≠ "java/lang/invoke/VarHandle" ∧ (parseMethodDescriptor M.1.desc).map (fun d => d.parameters.length) = some n ∧ M.2.2.1 ≤ 45 ∧ (Cond.methodLink own idx M.1 ∈ lw_tbl ∨ ∃ host, Cond.methodLinkNest own idx M.1 host ∈ lw_tbl)
def rmy (d K N : Nat) : Room := { frames := d, cells := K, slots := N, locals := 64 * d }
def PcY (D : va_G) (C : Nat → ClassId) (as : List Value) (x : Nat × va_E) (sz : Nat) : Array Value → State → Prop := fun v U => v = as.toArray ∧ U.heap.size = sz ∧ va_P D vwCl [x] U.heap ∧ Fy D C U
def QcY (D : va_G) (x : Nat × va_E) (sz : Nat) (Qw : va_W → Prop) : Array Value → State → Outcome → State → Prop := fun _ st oc t => (∃ w1 : va_W, oc = .returned none ∧ Qw w1 ∧ va_P D vwCl w1 t.heap ∧ va_D (va_A [x] sz) w1) ∧ va_F (va_A [x] sz) st t
set_option maxHeartbeats 4000000 in
theorem met_ofY {l : Launch} {D : va_G} {C : Nat → ClassId} {M : Mt} {d K N sz : Nat} {as : List Value} {x : Nat × va_E} {Qw : va_W → Prop} (hy : plainName M.1.cls = true) (hr : M.2.2.2 = none) (hlen : (lg_sl as).length ≤ M.2.2.1) (hY : Y l D C M d K N 0 (ent as) [] [x] 0 0 (fun pc _ st w1 k1 n1 => decode M.2.1 pc = .ok (.return_, 1) ∧ st = [] ∧ k1 ≤ K ∧ n1 ≤ N ∧ Qw w1)) : Met l M.1 (wsM M) (rmy d K N) (PcY D C as x sz) (QcY D x sz Qw) K N (va_A [x] sz) := by
  refine Met.ofW (cc := M.2.1) (maxL := M.2.2.1) (ret := M.2.2.2) hy rfl ?_
  intro p e s m args below meth c s₁ B hml hv
  obtain ⟨rfl, hsz, hP, hF⟩ := hv
  have hts := atoms_spec (ws := wsM M) B.pre
  have hlocks := B.notSynchronized
  have hl := lv_entry as (n := M.2.2.1) hlen
  have hD : va_D (va_A [x] sz) [x] := ⟨fun i j p q h1 h2 _ => by
    have := (List.getElem?_eq_some_iff.mp h1).1
    have := (List.getElem?_eq_some_iff.mp h2).1
    simp at *
    omega, fun i q h => va_A.in h⟩
  have hin : M.1.name = "<init>" → meth.name = "<init>" := fun h => ((name_of_methodNamed B.named B.method).1).trans h
  rw [lg_entry_eq]
  refine hY p e _ s m _ below meth c s.heap [] _ _ (va_A [x] sz) ⟨B.exec, B.bytes, hml, findClass_of_methodNamed B.named, fun w hw => hts w (List.mem_cons_of_mem _ hw), hF, Nat.le_refl _, Nat.le_refl _, Nat.le_refl _, Nat.le_refl _, hin, fun q h => Or.inr (by rw [← hsz]; exact h), ?_⟩ ⟨hP, hD, va_S.rf⟩ ⟨hl.1, hl.2.1, fun i v h => by
    have := hl.2.2 (i, rv (fun x => x) v) (by
      have := ent_args (fun x => x) as 0 i v h
      rw [rv_ids] at this
      simpa using this)
    exact this⟩
  intro pc L st w1 k1 n1 H locs ls hq hR hls
  obtain ⟨h1, rfl, h3, h4, h5⟩ := hq
  refine W.widen (k := K) (n := N) h3 h4 ?_
  exact W.vret B.exec B.bytes (B.returns.trans hr) (fun t ht hW => ⟨⟨w1, rfl, h5, by rw [ht]; exact hR.1, hR.2.1⟩, hR.2.2.F ht⟩) hR.2.2.2.2 h1
theorem pcy_blind {D : va_G} {C : Nat → ClassId} {as : List Value} {x : Nat × va_E} {sz : Nat} : FrameBlind (PcY D C as x sz) := by
  intro a U g mk h
  obtain ⟨h1, h2, h3, h4⟩ := h
  exact ⟨h1, h2, h3, fy_moved (s := U) (U := U.calling g mk a) (fun w hw hz => va_Nw.same (u := U) (nst_on hw) rfl hz) h4 (Vm.Alike.refl U.vm)⟩
set_option maxHeartbeats 4000000 in
/-- a constructor is called upon the cell that was made last -/
theorem y_init {l : Launch} {D : va_G} {C : Nat → ClassId} {M : Mt} {d K N pc : Nat} {L : Lc} {st : List Value} {R : va_W} {k n : Nat} {Q : Yq} {idx b ci np K' N' : Nat} {fs : List Value} {M' : Mt} (As : List Value) (hd : decode M.2.1 pc = .ok (.invokespecial idx, 3)) (hc : CI M.1.cls idx M' np) (hA : As.length = np) (hsl : (lg_sl (.ref b :: As)).length ≤ M'.2.2.1) (hW : Nat.ble ((st.map fun v => v.category).sum) 8 = true) (hk : k + K' ≤ K) (hn : n + N' ≤ N)
    (kk : Y l D C M' d K' N' 0 (ent (.ref b :: As)) [] [(b, .inr (ci, fs))] 0 0 (fun pc' _ st' w1 k1 n1 => decode M'.2.1 pc' = .ok (.return_, 1) ∧ st' = [] ∧ k1 ≤ K' ∧ n1 ≤ N' ∧ Y l D C M (d + 1) K N (pc + 3) L st (R ++ w1) (k + K') (n + N') Q)) : Y l D C M (d + 1) K N pc L (As.reverse ++ .ref b :: st) (R ++ [(b, .inr (ci, fs))]) k n Q := by
  intro p e Rm s m args below meth c H locs Qf ls A c0 hR hl
  obtain ⟨i1, i2, i3, i4, i5, i6, i7, i8, i9, i10, i11⟩ := hc
  have hM := met_ofY (l := l) (D := D) (C := C) (sz := H.size) i6 i5 hsl kk
  have hts := c0.2.2.2.2.1
  have hfr := c0.2.2.2.2.2.2.1
  have hlo := c0.2.2.2.2.2.2.2.1
  have hkR := c0.2.2.2.2.2.2.2.2.1
  have hnR := c0.2.2.2.2.2.2.2.2.2.1
  have hAs := c0.2.2.2.2.2.2.2.2.2.2.2.1
  have hFa : ∀ q : Nat, va_A [(b, (.inr (ci, fs) : va_E))] H.size q → A q := by
    intro q h
    rcases h with ⟨i, e', hi⟩ | h
    · have hi0 : i = 0 := by have := (List.getElem?_eq_some_iff.mp hi).1; simp at this; exact this
      subst hi0
      simp at hi
      have := hR.2.1.2 R.length (b, .inr (ci, fs)) (by simp)
      rw [← hi.1]
      exact this
    · exact hAs q (Nat.le_trans hR.2.2.1 h)
  have hP1 : va_P D vwCl [(b, .inr (ci, fs))] H := fun i q h => by
    have hi0 : i = 0 := by have := (List.getElem?_eq_some_iff.mp h).1; simp at this; exact this
    subst hi0
    simp at h
    subst h
    exact hR.1 R.length _ (by simp)
  have hpre : PreS s H (PcY D C (.ref b :: As) (b, .inr (ci, fs)) H.size) (.ref b :: As) := ⟨pcy_blind, fun U hU hWm => ⟨rfl, by rw [hU], by rw [hU]; exact hP1, fy_moved (fun w hw hz => nst_warm hWm hw hz) c0.2.2.2.2.2.1 hWm.alike⟩⟩
  have hrun : va_Run p l e Rm s m args below meth c H locs k n K' N' (F0 m pc ls (As.reverse ++ .ref b :: st)) st (QcY D (b, .inr (ci, fs)) H.size (fun w1 => Y l D C M (d + 1) K N (pc + 3) L st (R ++ w1) (k + K') (n + N') Q) (Value.ref b :: As).toArray) (va_A [(b, .inr (ci, fs))] H.size) := by
    have hw8 := Nat.le_of_ble_eq_true hW
    have hwm : wsM M' = Cond.code M'.1 M'.2.1 M'.2.2.1 none :: gtb := by unfold wsM; rw [i5]
    rcases i11 with i11 | ⟨host, i11⟩
    · refine va_runI (rest := st) (b := b) (As := As) (S := ⟨c0.1, c0.2.1, c0.2.2.1, c0.2.2.2.1, hts⟩) hM ⟨callB_of np hts (gi_M i1) hwm rfl rfl (hts _ (gtb_of i3 rfl)) (hts _ (gtb_of i11 rfl)) ⟨i7, i8, i9⟩ ⟨by simp only [rmy]; omega, by simp only [rmy]; omega⟩, i4, hts _ (gtb_of i2 rfl)⟩ hpre rfl hA hl.1 rfl (lv_room hw8) hd ⟨by omega, by omega⟩
    · refine va_runIN (rest := st) (b := b) (As := As) (S := ⟨c0.1, c0.2.1, c0.2.2.1, c0.2.2.2.1, hts⟩) hM ⟨va_cnB np hts (gi_M i1) hwm rfl rfl (c0.2.2.2.2.2.1.1 _ i11 (Or.inl ⟨_, _, _, _, rfl⟩)) (hts _ (gtb_of i3 rfl)) ⟨i7, i8, i9⟩ ⟨by simp only [rmy]; omega, by simp only [rmy]; omega⟩, i4, hts _ (gtb_of i2 rfl)⟩ hpre rfl hA hl.1 rfl (lv_room hw8) hd ⟨by omega, by omega⟩
  intro T hT X
  obtain ⟨v, st₀, t, T', L1, h0, X', hL, e1, e2, ⟨⟨w1, hv, hq, hPw, hDw⟩, hz, hkp⟩, go⟩ := hrun T hT X
  cases hv
  rw [h0] at hz hkp
  rw [← e1] at hPw hz hkp
  obtain ⟨jP, jD⟩ := join_last hR.1 hR.2.1 hFa hkp hPw hDw
  have hS : va_S A s.heap T'.heap (locs ++ L1) := ⟨Nat.le_trans hR.2.2.1 hz, fun q h1 h2 => by rw [hkp q (Nat.lt_of_lt_of_le h1 hR.2.2.1) (fun z => h2 (hFa q z))]; exact hR.2.2.2.1 q h1 h2, fun q hq => by
      rcases List.mem_append.mp hq with h | h
      · exact hR.2.2.2.2 q h
      · exact hFa q.base (hL q h)⟩
  obtain ⟨t2, a1, b1⟩ := hq p e Rm s m args below meth c T'.heap (locs ++ L1) Qf ls A c0 ⟨jP, jD, hS⟩ hl T' rfl X'
  exact ⟨t2, go t2 a1, b1⟩
