/-! My own words: a store of ints and longs over a fixed graph of objects, and a judgement Z over it. Objects bear numbers; G.1 gives their addresses. -/
/-- a method: its name, its bytes, its locals, what it returns -/
abbrev Mt : Type := MethodName × ByteArray × Nat × Option FieldType
/-- the store: what each object's slot holds, ints and longs -/
abbrev Sg : Type := (Nat → Nat → Int32) × (Nat → Nat → Int64)
/-- addresses, classes, array classes, the cells that may be written, the script -/
abbrev Gx : Type := (Nat → Nat) × va_G × (Nat → ClassId) × (Nat → Prop) × Nat × (Nat → Int32)
/-- the words that are carried from method to method -/
def gtb : List Cond := lw_tbl.filter goodWord
theorem gtb_of {w : Cond} (h : w ∈ lw_tbl) (g : goodWord w = true) : w ∈ gtb := List.mem_filter.mpr ⟨h, g⟩
/-- words on private members of nest mates -/
def nstM (w : Cond) : Prop := (∃ a i x h, w = .methodLinkNest a i x h) ∨ ∃ a i b n d h, w = .fieldLinkNest a i b n d h
/-- the kind of an object: a class's number, or 12 ints, 13 longs, 14 booleans, 15 beds, 16 plants -/
def kd (o : Nat) : Nat := match Nat.ble 65 o with
  | true => 6
  | false => match Nat.ble 57 o with
    | true => 13
    | false => match Nat.ble 49 o with
      | true => 0
      | false => [10, 11, 15, 16, 1, 6, 9, 12, 9, 12, 4, 7, 12, 12, 12, 12, 12, 12, 5, 12, 12, 12, 12, 4, 3, 12, 2, 13, 13, 8, 12, 12, 12, 12, 12, 14, 12, 12, 13, 13, 12, 13, 13, 12, 13, 13, 13, 12, 14].getD o 0
/-- how long an array is -/
def ln (o : Nat) : Nat := match Nat.ble 57 o with
  | true => 100
  | false => [0, 0, 8, 40, 0, 0, 0, 16, 0, 0, 0, 0, 40, 40, 40, 40, 40, 40, 0, 780, 780, 780, 780, 0, 0, 40, 0, 40, 40, 0, 40, 40, 40, 40, 40, 40, 8, 8, 800, 100, 16, 40, 40, 40, 66, 66, 66, 40, 40].getD o 0
/-- fields of a class -/
def nfl (c : Nat) : Nat := [4, 4, 7, 3, 3, 11, 8, 8, 4, 2, 13, 40].getD c 0
/-- the type of a field: 0 int, 1 long, 2 a reference, 3 boolean -/
def fty (c k : Nat) : Nat := ([[2, 3, 0, 0], [2, 3, 0, 0], [2, 2, 3, 0, 1, 1, 1], [2, 3, 0], [0, 0, 0], [2, 2, 2, 2, 2, 3, 0, 3, 0, 0, 0], [0, 0, 0, 0, 0, 0, 0, 3], [2, 2, 2, 2, 2, 2, 3, 0], [2, 3, 1, 1], [2, 0], [2, 2, 2, 2, 2, 2, 2, 2, 2, 2, 2, 0, 0],
  [0, 2, 2, 2, 2, 2, 0, 3, 0, 0, 0, 3, 2, 2, 2, 2, 0, 2, 0, 3, 1, 1, 1, 1, 1, 1, 2, 2, 2, 0, 1, 1, 1, 2, 2, 2, 2, 2, 1, 1]].getD c []).getD k 0
/-- the object that a reference of another one means -/
def rfo (o k : Nat) : Nat := match o with
  | 0 => [2, 3, 4, 6, 8, 10, 11, 18, 24, 26, 29].getD k 0
  | 1 => [0, 31, 32, 33, 34, 35, 0, 0, 0, 0, 0, 0, 36, 37, 38, 39, 0, 40, 0, 0, 0, 0, 0, 0, 0, 0, 41, 42, 43, 0, 0, 0, 0, 44, 45, 46, 47, 48].getD k 0
  | 2 => 49 + k
  | 3 => 65 + k
  | 4 => 5
  | 6 => 7
  | 8 => 9
  | 11 => 12 + k
  | 18 => 19 + k
  | 24 => 25
  | 26 => 27 + k
  | 29 => 30
  | o => o + 8
def rv (α : Nat → Nat) : Value → Value
  | .ref a => .ref (α a)
  | v => v
def fvl (σ : Sg) (o c k : Nat) : Value := match fty c k with
  | 1 => .long (σ.2 o k)
  | 2 => .ref (rfo o k)
  | _ => .int (σ.1 o k)
def cel (G : Gx) (σ : Sg) (o : Nat) : va_E :=
  if kd o < 12 then .inr (kd o, (List.range (nfl (kd o))).map (fun k => rv G.1 (fvl σ o (kd o) k)))
  else if kd o = 13 then .inl (G.2.2.1 1, ln o, .inr (.inl (σ.2 o)))
  else if kd o < 15 then .inl (G.2.2.1 (kd o - 12), ln o, .inl (σ.1 o))
  else .inl (G.2.2.1 (kd o - 12), ln o, .inr (.inr (.inr (.inr (fun i => some (G.1 (rfo o i)))))))
def wsG (G : Gx) (σ : Sg) : va_W := (List.range 105).map (fun o => (G.1 o, cel G σ o))
def tyG (G : Gx) : List (ClassId × FieldType) := [(G.2.2.1 0, .int), (G.2.2.1 1, .long), (G.2.2.1 2, .boolean), (G.2.2.1 3, .object "FurrowField$Bed"), (G.2.2.1 4, .object "FurrowField$Plant")]
/-- IS_TOO, BODIES -/
def cIs (j : Nat) : Int32 := ([-1, 0, 0, 1, 0] : List Int32).getD j 0
def cBo (j : Nat) : Int32 := ([10, 11, 10, 12, 13, 20, 20, 21, 20, 22, 30, 30, 30, 31, 30, 40, 40, 41, 40, 42] : List Int32).getD j 0
/-- what is read and never written: 105 the script, 106 IS_TOO, 107 BODIES -/
def rol (G : Gx) (o : Nat) : Nat := match o with
  | 105 => G.2.2.2.2.1
  | 106 => 5
  | _ => 20
def roc (G : Gx) (o : Nat) : Nat → Int32 := match o with
  | 105 => G.2.2.2.2.2
  | 106 => cIs
  | _ => cBo
def Ft (G : Gx) (s : State) : Prop := (∀ w ∈ lw_tbl, nstM w → va_Nw w s) ∧ va_K G.2.1 vwCl (tyG G) s ∧ (∀ o, 105 ≤ o → o < 108 → va_T .int (G.1 o) (rol G o) (fun j => .int (roc G o j)) G.2.2.2.1 s s.heap) ∧ va_Z "FurrowField" "IS_TOO" "[I" (.ref (G.1 106)) G.2.2.2.1 s s.heap ∧ va_Z "FurrowField" "BODIES" "[I" (.ref (G.1 107)) G.2.2.2.1 s s.heap
def RH (G : Gx) (σ : Sg) (H0 H : Heap) (locs : List Loc) : Prop := va_P G.2.1 vwCl (wsG G σ) H ∧ va_D G.2.2.2.1 (wsG G σ) ∧ va_S G.2.2.2.1 H0 H locs
/-- how a method ends -/
def Rt (M : Mt) (v : Option Value) (pc : Nat) : Prop := match v with
  | none => decode M.2.1 pc = .ok (.return_, 1) ∧ M.2.2.2 = none
  | some (.int x) => decode M.2.1 pc = .ok (.ireturn, 1) ∧ ∃ ty, M.2.2.2 = some ty ∧ narrow ty (.int x) = .int x
  | some (.long _) => decode M.2.1 pc = .ok (.lreturn, 1) ∧ M.2.2.2 = some .long
  | some (.ref _) => decode M.2.1 pc = .ok (.areturn, 1) ∧ ∃ ty, M.2.2.2 = some ty ∧ ((∃ n, ty = .object n) ∨ ∃ t, ty = .array t)
  | _ => False
def Cx (l : Launch) (G : Gx) (M : Mt) (d : Nat) (Q : Option Value → Sg → Prop) (p : Program) (e : Env) (R : Room) (s : State) (m : MethodId) (args : Array Value) (below : List Frame) (meth : Method) (c : Code) (cells slots : Nat) (Qf : State → Prop) : Prop :=
  p.tables.exec = Jvm.exec ∧ c.code = M.2.1 ∧ c.maxLocals = M.2.2.1 ∧ s.vm.findClass M.1.cls = some m.cls ∧ (∀ w ∈ gtb, w.before args s = true) ∧ Ft G s ∧ d ≤ R.frames ∧ 64 * d ≤ R.locals ∧ cells ≤ R.cells ∧ slots ≤ R.slots ∧
  ∀ (pc : Nat) (v : Option Value) (σ : Sg) (H : Heap) (locs : List Loc) (ls : Array Slot), Q v σ → RH G σ s.heap H locs → Rt M v pc → W p l e R s m args below meth c H locs cells slots Qf (F0 m pc ls ((v.map (rv G.1)).toList))
/-- the locals that are known -/
abbrev Lc : Type := List (Option Value)
def lhas (α : Nat → Nat) (L : Lc) (nL : Nat) (ls : Array Slot) : Prop := ls.size = nL ∧ lv_wf ls ∧ ∀ (i : Nat) (v : Value), L[i]? = some (some v) → ls[i]? = some (.val (rv α v))
/-- from the frame at pc with these locals, this stack and this store the method comes to its end with Q -/
def Z (l : Launch) (G : Gx) (M : Mt) (d : Nat) (pc : Nat) (L : Lc) (st : List Value) (σ : Sg) (Q : Option Value → Sg → Prop) : Prop :=
  ∀ (p : Program) (e : Env) (R : Room) (s : State) (m : MethodId) (args : Array Value) (below : List Frame) (meth : Method) (c : Code) (H : Heap) (locs : List Loc) (cells slots : Nat) (Qf : State → Prop) (ls : Array Slot),
    Cx l G M d Q p e R s m args below meth c cells slots Qf → RH G σ s.heap H locs → lhas G.1 L M.2.2.1 ls → W p l e R s m args below meth c H locs cells slots Qf (F0 m pc ls (st.map (rv G.1)))
theorem rv_cat (α : Nat → Nat) (v : Value) : (rv α v).category = v.category := by cases v <;> rfl
theorem rv_cats (α : Nat → Nat) (st : List Value) : (((st.map (rv α)).map fun v => v.category).sum) = ((st.map fun v => v.category).sum) := by
  rw [List.map_map]
  congr 1
  exact List.map_congr_left (fun v _ => rv_cat α v)
def lst (α : Nat → Nat) (L : Lc) : List (Nat × Value) := (List.range L.length).filterMap (fun i => match L[i]? with
  | some (some v) => some (i, rv α v)
  | _ => none)
theorem lst_mem {α : Nat → Nat} {L : Lc} {q : Nat × Value} : q ∈ lst α L ↔ ∃ v, L[q.1]? = some (some v) ∧ q.2 = rv α v := by
  constructor
  · intro h
    obtain ⟨i, -, hi⟩ := List.mem_filterMap.mp h
    cases hL : L[i]? with
    | none => rw [hL] at hi; cases hi
    | some w =>
      rw [hL] at hi
      cases w with
      | none => cases hi
      | some v => cases hi; exact ⟨v, hL, rfl⟩
  · rintro ⟨v, h1, h2⟩
    refine List.mem_filterMap.mpr ⟨q.1, List.mem_range.mpr (List.getElem?_eq_some_iff.mp h1).1, ?_⟩
    rw [h1]
    show some (q.1, rv α v) = some q
    rw [← h2]
theorem lhas.to {α : Nat → Nat} {L : Lc} {nL : Nat} {ls : Array Slot} (h : lhas α L nL ls) : lv_has ls nL (lst α L) := ⟨h.1, h.2.1, fun q hq => by
  obtain ⟨v, h1, h2⟩ := lst_mem.mp hq
  rw [h2]
  exact h.2.2 q.1 v h1⟩
theorem lhas.of {α : Nat → Nat} {L : Lc} {nL : Nat} {ls : Array Slot} (h : lv_has ls nL (lst α L)) : lhas α L nL ls := ⟨h.1, h.2.1, fun i v hv => h.2.2 (i, rv α v) (lst_mem.mpr ⟨v, hv, rfl⟩)⟩
/-- no long stands just ahead of place i -/
def okI (L : Lc) (i : Nat) : Bool := match i with
  | 0 => true
  | j + 1 => match L[j]? with
    | some (some v) => Nat.ble v.category 1
    | _ => true
theorem okI_use {L : Lc} {i j : Nat} {v : Value} (h : okI L i = true) (hj : j + 1 = i) (hv : L[j]? = some (some v)) : ¬ v.category = 2 := by
  subst hj
  unfold okI at h
  simp only [hv] at h
  have := Nat.le_of_ble_eq_true h
  omega
def setI (L : Lc) (i : Nat) (v : Value) : Lc := L.set i (some v)
def setL (L : Lc) (i : Nat) (v : Value) : Lc := (L.set i (some v)).set (i + 1) none
theorem setI_sub {α : Nat → Nat} {L : Lc} {i : Nat} {v : Value} (hok : okI L i = true) : ∀ q ∈ lst α (setI L i v), q ∈ (i, rv α v) :: (lst α L).filter (fun q => !(q.1 == i) && !(q.1 + 1 == i && q.2.category == 2)) := by
  intro q hq
  obtain ⟨w, h1, h2⟩ := lst_mem.mp hq
  unfold setI at h1
  by_cases hi : q.1 = i
  · rw [hi, List.getElem?_set] at h1
    simp only [if_true] at h1
    split at h1
    · cases h1
      have : q = (i, rv α v) := Prod.ext hi h2
      rw [this]; exact List.mem_cons_self
    · cases h1
  · rw [List.getElem?_set_ne (fun e => hi e.symm)] at h1
    refine List.mem_cons_of_mem _ (List.mem_filter.mpr ⟨lst_mem.mpr ⟨w, h1, h2⟩, ?_⟩)
    have hc : ¬ (q.1 + 1 = i ∧ q.2.category = 2) := fun ⟨a, b⟩ => okI_use hok a h1 (by rw [h2, rv_cat] at b; exact b)
    simp only [Bool.and_eq_true, Bool.not_eq_true', beq_eq_false_iff_ne, ne_eq, hi, not_false_eq_true, true_and, Bool.and_eq_false_imp, beq_iff_eq]
    intro a b
    exact hc ⟨a, b⟩
theorem setL_sub {α : Nat → Nat} {L : Lc} {i : Nat} {v : Value} (hok : okI L i = true) : ∀ q ∈ lst α (setL L i v), q ∈ (i, rv α v) :: (lst α L).filter (fun q => !(q.1 == i) && (!(q.1 == i + 1) && !(q.1 + 1 == i && q.2.category == 2))) := by
  intro q hq
  obtain ⟨w, h1, h2⟩ := lst_mem.mp hq
  unfold setL at h1
  by_cases hi1 : q.1 = i + 1
  · rw [hi1, List.getElem?_set] at h1
    simp only [if_true] at h1
    split at h1 <;> cases h1
  rw [List.getElem?_set_ne (fun e => hi1 e.symm)] at h1
  by_cases hi : q.1 = i
  · rw [hi, List.getElem?_set] at h1
    simp only [if_true] at h1
    split at h1
    · cases h1
      have : q = (i, rv α v) := Prod.ext hi h2
      rw [this]; exact List.mem_cons_self
    · cases h1
  · rw [List.getElem?_set_ne (fun e => hi e.symm)] at h1
    refine List.mem_cons_of_mem _ (List.mem_filter.mpr ⟨lst_mem.mpr ⟨w, h1, h2⟩, ?_⟩)
    have hc : ¬ (q.1 + 1 = i ∧ q.2.category = 2) := fun ⟨a, b⟩ => okI_use hok a h1 (by rw [h2, rv_cat] at b; exact b)
    simp only [Bool.and_eq_true, Bool.not_eq_true', beq_eq_false_iff_ne, ne_eq, hi, hi1, not_false_eq_true, true_and, Bool.and_eq_false_imp, beq_iff_eq]
    intro a b
    exact hc ⟨a, b⟩
theorem lv_has_sub {ls : Array Slot} {nL : Nat} {l l' : List (Nat × Value)} (h : lv_has ls nL l) (hs : ∀ q ∈ l', q ∈ l) : lv_has ls nL l' := ⟨h.1, h.2.1, fun q hq => h.2.2 q (hs q hq)⟩
/-- fewer known locals -/
def lsub : Lc → Lc → Prop
  | [], _ => True
  | none :: r, [] => lsub r []
  | none :: r, _ :: t => lsub r t
  | some _ :: _, [] => False
  | some v :: r, w :: t => w = some v ∧ lsub r t
theorem lsub_get : ∀ (L' L : Lc), lsub L' L → ∀ (i : Nat) (v : Value), L'[i]? = some (some v) → L[i]? = some (some v)
  | [], _, _, i, v, h => by simp at h
  | none :: r, [], hs, i, v, h => by
    cases i with
    | zero => simp at h
    | succ i => have := lsub_get r [] hs i v (by simpa using h); simp at this
  | none :: r, _ :: t, hs, i, v, h => by
    cases i with
    | zero => simp at h
    | succ i => simpa using lsub_get r t hs i v (by simpa using h)
  | some w :: r, x :: t, hs, i, v, h => by
    obtain ⟨h1, h2⟩ := hs
    cases i with
    | zero => simp at h; subst h; subst h1; rfl
    | succ i => simpa using lsub_get r t h2 i v (by simpa using h)
theorem z_sub {l : Launch} {G : Gx} {M : Mt} {d pc : Nat} {L L' : Lc} {st : List Value} {σ : Sg} {Q : Option Value → Sg → Prop} (hs : lsub L' L) (k : Z l G M d pc L' st σ Q) : Z l G M d pc L st σ Q := by
  intro p e R s m args below meth c H locs cells slots Qf ls C hR hl
  exact k p e R s m args below meth c H locs cells slots Qf ls C hR ⟨hl.1, hl.2.1, fun i v h => hl.2.2 i v (lsub_get _ _ hs i v h)⟩
