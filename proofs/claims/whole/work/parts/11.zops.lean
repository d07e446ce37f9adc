section ZO
variable {l : Launch} {G : Gx} {M : Mt} {d pc : Nat} {L : Lc} {st : List Value} {σ : Sg} {Q : Option Value → Sg → Prop}
theorem z_iconst {n : Int} {v : Int32} (hd : decode M.2.1 pc = .ok (.iconst n, 1)) (hv : Int32.ofInt n = v := by rfl) (k : Z l G M d (pc + 1) L (.int v :: st) σ Q) : Z l G M d pc L (st) σ Q := by
  intro p e R s m args below meth c H locs cells slots Qf ls C hR hl
  exact lv_iconst C.1 C.2.1 hd hv (k p e R s m args below meth c H locs cells slots Qf ls C hR hl)
theorem z_bipush {n : Int} {v : Int32} (hd : decode M.2.1 pc = .ok (.bipush n, 2)) (hv : (Int8.ofInt n).toInt32 = v := by rfl) (k : Z l G M d (pc + 2) L (.int v :: st) σ Q) : Z l G M d pc L (st) σ Q := by
  intro p e R s m args below meth c H locs cells slots Qf ls C hR hl
  exact lv_bipush C.1 C.2.1 hd hv (k p e R s m args below meth c H locs cells slots Qf ls C hR hl)
theorem z_sipush {n : Int} {v : Int32} (hd : decode M.2.1 pc = .ok (.sipush n, 3)) (hv : (Int16.ofInt n).toInt32 = v := by rfl) (k : Z l G M d (pc + 3) L (.int v :: st) σ Q) : Z l G M d pc L (st) σ Q := by
  intro p e R s m args below meth c H locs cells slots Qf ls C hR hl
  exact lv_sipush C.1 C.2.1 hd hv (k p e R s m args below meth c H locs cells slots Qf ls C hR hl)
theorem z_lconst {n : Fin 2} {v : Int64} (hd : decode M.2.1 pc = .ok (.lconst n, 1)) (hv : Int64.ofNat (n : Nat) = v := by rfl) (k : Z l G M d (pc + 1) L (.long v :: st) σ Q) : Z l G M d pc L (st) σ Q := by
  intro p e R s m args below meth c H locs cells slots Qf ls C hR hl
  exact lv_lconst C.1 C.2.1 hd hv (k p e R s m args below meth c H locs cells slots Qf ls C hR hl)
theorem z_ldc {n : Nat} {v : Int32} (hd : decode M.2.1 pc = .ok (.ldc n, 2)) (hw : Cond.constant M.1.cls n v ∈ lw_tbl) (k : Z l G M d (pc + 2) L (.int v :: st) σ Q) : Z l G M d pc L (st) σ Q := by
  intro p e R s m args below meth c H locs cells slots Qf ls C hR hl
  exact lv_ldc C.1 C.2.1 C.2.2.2.1 (C.2.2.2.2.1 _ (gtb_of hw rfl)) hd (k p e R s m args below meth c H locs cells slots Qf ls C hR hl)
theorem z_ldcw {n : Nat} {v : Int32} (hd : decode M.2.1 pc = .ok (.ldc_w n, 3)) (hw : Cond.constant M.1.cls n v ∈ lw_tbl) (k : Z l G M d (pc + 3) L (.int v :: st) σ Q) : Z l G M d pc L (st) σ Q := by
  intro p e R s m args below meth c H locs cells slots Qf ls C hR hl
  exact lv_ldcw C.1 C.2.1 C.2.2.2.1 (C.2.2.2.2.1 _ (gtb_of hw rfl)) hd (k p e R s m args below meth c H locs cells slots Qf ls C hR hl)
theorem z_ldc2 {n : Nat} {v : Int64} (hd : decode M.2.1 pc = .ok (.ldc2_w n, 3)) (hw : Cond.constantLong M.1.cls n v ∈ lw_tbl) (k : Z l G M d (pc + 3) L (.long v :: st) σ Q) : Z l G M d pc L (st) σ Q := by
  intro p e R s m args below meth c H locs cells slots Qf ls C hR hl
  exact lv_ldc2 C.1 C.2.1 C.2.2.2.1 (C.2.2.2.2.1 _ (gtb_of hw rfl)) hd (k p e R s m args below meth c H locs cells slots Qf ls C hR hl)
theorem z_iload_n {n : Fin 4} {x : Int32} (hd : decode M.2.1 pc = .ok (.iload_n n, 1)) (hv : L[(n : Nat)]? = some (some (.int x))) (k : Z l G M d (pc + 1) L (.int x :: st) σ Q) : Z l G M d pc L (st) σ Q := by
  intro p e R s m args below meth c H locs cells slots Qf ls C hR hl
  exact lv_iload_n C.1 C.2.1 hd rfl (hl.2.2 _ _ hv) (k p e R s m args below meth c H locs cells slots Qf ls C hR hl)
theorem z_iload {n : Nat} {x : Int32} (hd : decode M.2.1 pc = .ok (.iload n, 2)) (hv : L[n]? = some (some (.int x))) (k : Z l G M d (pc + 2) L (.int x :: st) σ Q) : Z l G M d pc L (st) σ Q := by
  intro p e R s m args below meth c H locs cells slots Qf ls C hR hl
  exact lv_iload C.1 C.2.1 hd (hl.2.2 _ _ hv) (k p e R s m args below meth c H locs cells slots Qf ls C hR hl)
theorem z_lload_n {n : Fin 4} {x : Int64} (hd : decode M.2.1 pc = .ok (.lload_n n, 1)) (hv : L[(n : Nat)]? = some (some (.long x))) (k : Z l G M d (pc + 1) L (.long x :: st) σ Q) : Z l G M d pc L (st) σ Q := by
  intro p e R s m args below meth c H locs cells slots Qf ls C hR hl
  exact lv_lload_n C.1 C.2.1 hd rfl (hl.2.2 _ _ hv) (k p e R s m args below meth c H locs cells slots Qf ls C hR hl)
theorem z_lload {n : Nat} {x : Int64} (hd : decode M.2.1 pc = .ok (.lload n, 2)) (hv : L[n]? = some (some (.long x))) (k : Z l G M d (pc + 2) L (.long x :: st) σ Q) : Z l G M d pc L (st) σ Q := by
  intro p e R s m args below meth c H locs cells slots Qf ls C hR hl
  exact lv_lload C.1 C.2.1 hd (hl.2.2 _ _ hv) (k p e R s m args below meth c H locs cells slots Qf ls C hR hl)
theorem z_aload_n {n : Fin 4} {x : Nat} (hd : decode M.2.1 pc = .ok (.aload_n n, 1)) (hv : L[(n : Nat)]? = some (some (.ref x))) (k : Z l G M d (pc + 1) L (.ref x :: st) σ Q) : Z l G M d pc L (st) σ Q := by
  intro p e R s m args below meth c H locs cells slots Qf ls C hR hl
  exact lv_aload_n C.1 C.2.1 hd rfl (hl.2.2 _ _ hv) (k p e R s m args below meth c H locs cells slots Qf ls C hR hl)
theorem z_aload {n : Nat} {x : Nat} (hd : decode M.2.1 pc = .ok (.aload n, 2)) (hv : L[n]? = some (some (.ref x))) (k : Z l G M d (pc + 2) L (.ref x :: st) σ Q) : Z l G M d pc L (st) σ Q := by
  intro p e R s m args below meth c H locs cells slots Qf ls C hR hl
  exact lv_aload C.1 C.2.1 hd (hl.2.2 _ _ hv) (k p e R s m args below meth c H locs cells slots Qf ls C hR hl)
theorem z_istore {n : Nat} {x : Int32} {L' : Lc} (hd : decode M.2.1 pc = .ok (.istore n, 2)) (hn : Nat.blt (n) M.2.2.1 = true) (hok : okI L n = true) (hL : setI L n (.int x) = L') (k : Z l G M d (pc + 2) L' st σ Q) : Z l G M d pc L (.int x :: st) σ Q := by
  intro p e R s m args below meth c H locs cells slots Qf ls C hR hl
  refine lv_istore C.1 C.2.1 hd hl.to (Nat.le_of_ble_eq_true hn) rfl (fun ls1 hl1 => ?_)
  exact k p e R s m args below meth c H locs cells slots Qf ls1 C hR (by rw [← hL]; exact lhas.of (lv_has_sub hl1 (setI_sub hok)))
theorem z_istore_n {n : Fin 4} {x : Int32} {L' : Lc} (hd : decode M.2.1 pc = .ok (.istore_n n, 1)) (hn : Nat.blt ((n : Nat)) M.2.2.1 = true) (hok : okI L n = true) (hL : setI L n (.int x) = L') (k : Z l G M d (pc + 1) L' st σ Q) : Z l G M d pc L (.int x :: st) σ Q := by
  intro p e R s m args below meth c H locs cells slots Qf ls C hR hl
  refine lv_istore_n C.1 C.2.1 hd rfl hl.to (Nat.le_of_ble_eq_true hn) rfl (fun ls1 hl1 => ?_)
  exact k p e R s m args below meth c H locs cells slots Qf ls1 C hR (by rw [← hL]; exact lhas.of (lv_has_sub hl1 (setI_sub hok)))
theorem z_lstore {n : Nat} {x : Int64} {L' : Lc} (hd : decode M.2.1 pc = .ok (.lstore n, 2)) (hn : Nat.blt (n + 1) M.2.2.1 = true) (hok : okI L n = true) (hL : setL L n (.long x) = L') (k : Z l G M d (pc + 2) L' st σ Q) : Z l G M d pc L (.long x :: st) σ Q := by
  intro p e R s m args below meth c H locs cells slots Qf ls C hR hl
  refine lv_lstore C.1 C.2.1 hd hl.to (Nat.le_of_ble_eq_true hn) rfl (fun ls1 hl1 => ?_)
  exact k p e R s m args below meth c H locs cells slots Qf ls1 C hR (by rw [← hL]; exact lhas.of (lv_has_sub hl1 (setL_sub hok)))
theorem z_lstore_n {n : Fin 4} {x : Int64} {L' : Lc} (hd : decode M.2.1 pc = .ok (.lstore_n n, 1)) (hn : Nat.blt ((n : Nat) + 1) M.2.2.1 = true) (hok : okI L n = true) (hL : setL L n (.long x) = L') (k : Z l G M d (pc + 1) L' st σ Q) : Z l G M d pc L (.long x :: st) σ Q := by
  intro p e R s m args below meth c H locs cells slots Qf ls C hR hl
  refine lv_lstore_n C.1 C.2.1 hd rfl hl.to (Nat.le_of_ble_eq_true hn) rfl (fun ls1 hl1 => ?_)
  exact k p e R s m args below meth c H locs cells slots Qf ls1 C hR (by rw [← hL]; exact lhas.of (lv_has_sub hl1 (setL_sub hok)))
theorem z_astore {n : Nat} {x : Nat} {L' : Lc} (hd : decode M.2.1 pc = .ok (.astore n, 2)) (hn : Nat.blt (n) M.2.2.1 = true) (hok : okI L n = true) (hL : setI L n (.ref x) = L') (k : Z l G M d (pc + 2) L' st σ Q) : Z l G M d pc L (.ref x :: st) σ Q := by
  intro p e R s m args below meth c H locs cells slots Qf ls C hR hl
  refine lv_astore C.1 C.2.1 hd hl.to (Nat.le_of_ble_eq_true hn) rfl (fun ls1 hl1 => ?_)
  exact k p e R s m args below meth c H locs cells slots Qf ls1 C hR (by rw [← hL]; exact lhas.of (lv_has_sub hl1 (setI_sub hok)))
theorem z_astore_n {n : Fin 4} {x : Nat} {L' : Lc} (hd : decode M.2.1 pc = .ok (.astore_n n, 1)) (hn : Nat.blt ((n : Nat)) M.2.2.1 = true) (hok : okI L n = true) (hL : setI L n (.ref x) = L') (k : Z l G M d (pc + 1) L' st σ Q) : Z l G M d pc L (.ref x :: st) σ Q := by
  intro p e R s m args below meth c H locs cells slots Qf ls C hR hl
  refine lv_astore_n C.1 C.2.1 hd rfl hl.to (Nat.le_of_ble_eq_true hn) rfl (fun ls1 hl1 => ?_)
  exact k p e R s m args below meth c H locs cells slots Qf ls1 C hR (by rw [← hL]; exact lhas.of (lv_has_sub hl1 (setI_sub hok)))
theorem z_iinc {n : Nat} {j : Int} {x v : Int32} {L' : Lc} (hd : decode M.2.1 pc = .ok (.iinc n j, 3)) (hx : L[n]? = some (some (.int x))) (hv : x + Int32.ofInt j = v) (hn : Nat.blt n M.2.2.1 = true) (hok : okI L n = true) (hL : setI L n (.int v) = L') (k : Z l G M d (pc + 3) L' st σ Q) : Z l G M d pc L st σ Q := by
  intro p e R s m args below meth c H locs cells slots Qf ls C hR hl
  obtain ⟨q, hq⟩ := List.getElem?_of_mem (lst_mem (α := G.1) (L := L) (q := (n, .int x)) |>.mpr ⟨_, hx, rfl⟩)
  refine lv_iinc C.1 C.2.1 hd hl.to hq hv (Nat.le_of_ble_eq_true hn) rfl (fun ls1 hl1 => ?_)
  exact k p e R s m args below meth c H locs cells slots Qf ls1 C hR (by rw [← hL]; exact lhas.of (lv_has_sub hl1 (setI_sub hok)))
theorem z_iadd {x y : Int32} (hd : decode M.2.1 pc = .ok (.iadd, 1)) (k : Z l G M d (pc + 1) L (.int (x + y) :: st) σ Q) : Z l G M d pc L (.int y :: .int x :: st) σ Q := by
  intro p e R s m args below meth c H locs cells slots Qf ls C hR hl
  exact lv_iadd C.1 C.2.1 hd (k p e R s m args below meth c H locs cells slots Qf ls C hR hl)
theorem z_isub {x y : Int32} (hd : decode M.2.1 pc = .ok (.isub, 1)) (k : Z l G M d (pc + 1) L (.int (x - y) :: st) σ Q) : Z l G M d pc L (.int y :: .int x :: st) σ Q := by
  intro p e R s m args below meth c H locs cells slots Qf ls C hR hl
  exact lv_isub C.1 C.2.1 hd (k p e R s m args below meth c H locs cells slots Qf ls C hR hl)
theorem z_imul {x y : Int32} (hd : decode M.2.1 pc = .ok (.imul, 1)) (k : Z l G M d (pc + 1) L (.int (x * y) :: st) σ Q) : Z l G M d pc L (.int y :: .int x :: st) σ Q := by
  intro p e R s m args below meth c H locs cells slots Qf ls C hR hl
  exact lv_imul C.1 C.2.1 hd (k p e R s m args below meth c H locs cells slots Qf ls C hR hl)
theorem z_iand {x y : Int32} (hd : decode M.2.1 pc = .ok (.iand, 1)) (k : Z l G M d (pc + 1) L (.int (x &&& y) :: st) σ Q) : Z l G M d pc L (.int y :: .int x :: st) σ Q := by
  intro p e R s m args below meth c H locs cells slots Qf ls C hR hl
  exact lv_iand C.1 C.2.1 hd (k p e R s m args below meth c H locs cells slots Qf ls C hR hl)
theorem z_ladd {x y : Int64} (hd : decode M.2.1 pc = .ok (.ladd, 1)) (k : Z l G M d (pc + 1) L (.long (x + y) :: st) σ Q) : Z l G M d pc L (.long y :: .long x :: st) σ Q := by
  intro p e R s m args below meth c H locs cells slots Qf ls C hR hl
  exact lv_ladd C.1 C.2.1 hd (k p e R s m args below meth c H locs cells slots Qf ls C hR hl)
theorem z_lsub {x y : Int64} (hd : decode M.2.1 pc = .ok (.lsub, 1)) (k : Z l G M d (pc + 1) L (.long (x - y) :: st) σ Q) : Z l G M d pc L (.long y :: .long x :: st) σ Q := by
  intro p e R s m args below meth c H locs cells slots Qf ls C hR hl
  exact lv_lsub C.1 C.2.1 hd (k p e R s m args below meth c H locs cells slots Qf ls C hR hl)
theorem z_lmul {x y : Int64} (hd : decode M.2.1 pc = .ok (.lmul, 1)) (k : Z l G M d (pc + 1) L (.long (x * y) :: st) σ Q) : Z l G M d pc L (.long y :: .long x :: st) σ Q := by
  intro p e R s m args below meth c H locs cells slots Qf ls C hR hl
  exact lv_lmul C.1 C.2.1 hd (k p e R s m args below meth c H locs cells slots Qf ls C hR hl)
theorem z_land {x y : Int64} (hd : decode M.2.1 pc = .ok (.land, 1)) (k : Z l G M d (pc + 1) L (.long (x &&& y) :: st) σ Q) : Z l G M d pc L (.long y :: .long x :: st) σ Q := by
  intro p e R s m args below meth c H locs cells slots Qf ls C hR hl
  exact lv_land C.1 C.2.1 hd (k p e R s m args below meth c H locs cells slots Qf ls C hR hl)
theorem z_lor {x y : Int64} (hd : decode M.2.1 pc = .ok (.lor, 1)) (k : Z l G M d (pc + 1) L (.long (x ||| y) :: st) σ Q) : Z l G M d pc L (.long y :: .long x :: st) σ Q := by
  intro p e R s m args below meth c H locs cells slots Qf ls C hR hl
  exact lv_lor C.1 C.2.1 hd (k p e R s m args below meth c H locs cells slots Qf ls C hR hl)
theorem z_idiv {x y : Int32} (hd : decode M.2.1 pc = .ok (.idiv, 1)) (hne : ¬ y = 0) (k : Z l G M d (pc + 1) L (.int (x / y) :: st) σ Q) : Z l G M d pc L (.int y :: .int x :: st) σ Q := by
  intro p e R s m args below meth c H locs cells slots Qf ls C hR hl
  exact lv_idiv C.1 C.2.1 hd hne (k p e R s m args below meth c H locs cells slots Qf ls C hR hl)
theorem z_irem {x y : Int32} (hd : decode M.2.1 pc = .ok (.irem, 1)) (hne : ¬ y = 0) (k : Z l G M d (pc + 1) L (.int (x - x / y * y) :: st) σ Q) : Z l G M d pc L (.int y :: .int x :: st) σ Q := by
  intro p e R s m args below meth c H locs cells slots Qf ls C hR hl
  exact lv_irem C.1 C.2.1 hd hne (k p e R s m args below meth c H locs cells slots Qf ls C hR hl)
theorem z_ldiv {x y : Int64} (hd : decode M.2.1 pc = .ok (.ldiv, 1)) (hne : ¬ y = 0) (k : Z l G M d (pc + 1) L (.long (x / y) :: st) σ Q) : Z l G M d pc L (.long y :: .long x :: st) σ Q := by
  intro p e R s m args below meth c H locs cells slots Qf ls C hR hl
  exact lv_ldiv C.1 C.2.1 hd hne (k p e R s m args below meth c H locs cells slots Qf ls C hR hl)
theorem z_lrem {x y : Int64} (hd : decode M.2.1 pc = .ok (.lrem, 1)) (hne : ¬ y = 0) (k : Z l G M d (pc + 1) L (.long (x - x / y * y) :: st) σ Q) : Z l G M d pc L (.long y :: .long x :: st) σ Q := by
  intro p e R s m args below meth c H locs cells slots Qf ls C hR hl
  exact lv_lrem C.1 C.2.1 hd hne (k p e R s m args below meth c H locs cells slots Qf ls C hR hl)
theorem z_ineg {x : Int32} (hd : decode M.2.1 pc = .ok (.ineg, 1)) (k : Z l G M d (pc + 1) L (.int (-x) :: st) σ Q) : Z l G M d pc L (.int x :: st) σ Q := by
  intro p e R s m args below meth c H locs cells slots Qf ls C hR hl
  exact lv_ineg C.1 C.2.1 hd (k p e R s m args below meth c H locs cells slots Qf ls C hR hl)
theorem z_lneg {x : Int64} (hd : decode M.2.1 pc = .ok (.lneg, 1)) (k : Z l G M d (pc + 1) L (.long (-x) :: st) σ Q) : Z l G M d pc L (.long x :: st) σ Q := by
  intro p e R s m args below meth c H locs cells slots Qf ls C hR hl
  exact lv_lneg C.1 C.2.1 hd (k p e R s m args below meth c H locs cells slots Qf ls C hR hl)
theorem z_i2l {x : Int32} (hd : decode M.2.1 pc = .ok (.i2l, 1)) (k : Z l G M d (pc + 1) L (.long x.toInt64 :: st) σ Q) : Z l G M d pc L (.int x :: st) σ Q := by
  intro p e R s m args below meth c H locs cells slots Qf ls C hR hl
  exact lv_i2l C.1 C.2.1 hd rfl (k p e R s m args below meth c H locs cells slots Qf ls C hR hl)
theorem z_l2i {x : Int64} (hd : decode M.2.1 pc = .ok (.l2i, 1)) (k : Z l G M d (pc + 1) L (.int x.toInt32 :: st) σ Q) : Z l G M d pc L (.long x :: st) σ Q := by
  intro p e R s m args below meth c H locs cells slots Qf ls C hR hl
  exact lv_l2i C.1 C.2.1 hd rfl (k p e R s m args below meth c H locs cells slots Qf ls C hR hl)
theorem z_i2s {x : Int32} (hd : decode M.2.1 pc = .ok (.i2s, 1)) (k : Z l G M d (pc + 1) L (.int x.toInt16.toInt32 :: st) σ Q) : Z l G M d pc L (.int x :: st) σ Q := by
  intro p e R s m args below meth c H locs cells slots Qf ls C hR hl
  exact lv_i2s C.1 C.2.1 hd rfl (k p e R s m args below meth c H locs cells slots Qf ls C hR hl)
theorem z_lshl {x : Int64} {y : Int32} (hd : decode M.2.1 pc = .ok (.lshl, 1)) (k : Z l G M d (pc + 1) L (.long (x <<< (y.toInt64 &&& 63)) :: st) σ Q) : Z l G M d pc L (.int y :: .long x :: st) σ Q := by
  intro p e R s m args below meth c H locs cells slots Qf ls C hR hl
  exact lv_lshl C.1 C.2.1 hd rfl (k p e R s m args below meth c H locs cells slots Qf ls C hR hl)
theorem z_dup {v : Value} (hd : decode M.2.1 pc = .ok (.dup, 1)) (hv : v.category = 1 := by rfl) (k : Z l G M d (pc + 1) L (v :: v :: st) σ Q) : Z l G M d pc L (v :: st) σ Q := by
  intro p e R s m args below meth c H locs cells slots Qf ls C hR hl
  exact lv_dup C.1 C.2.1 hd (by rw [rv_cat]; exact hv) (k p e R s m args below meth c H locs cells slots Qf ls C hR hl)
theorem z_dup2 {v w : Value} (hd : decode M.2.1 pc = .ok (.dup2, 1)) (hv : v.category = 1 := by rfl) (hw : w.category = 1 := by rfl) (k : Z l G M d (pc + 1) L (v :: w :: v :: w :: st) σ Q) : Z l G M d pc L (v :: w :: st) σ Q := by
  intro p e R s m args below meth c H locs cells slots Qf ls C hR hl
  exact lv_dup2_11 C.1 C.2.1 hd (by rw [rv_cat]; exact hv) (by rw [rv_cat]; exact hw) (k p e R s m args below meth c H locs cells slots Qf ls C hR hl)
theorem z_if_eq {x : Int32} {off : Int} {tgt : Nat} (hd : decode M.2.1 pc = .ok (.ifCond .eq off, 3)) (ht : (pc : Int) + off = (tgt : Int)) (kt : x = 0 → Z l G M d tgt L st σ Q) (kf : ¬ x = 0 → Z l G M d (pc + 3) L st σ Q) : Z l G M d pc L (.int x :: st) σ Q := by
  intro p e R s m args below meth c H locs cells slots Qf ls C hR hl
  exact lv_if_eq C.1 C.2.1 hd ht (fun hh => (kt hh p e R s m args below meth c H locs cells slots Qf ls C hR hl)) (fun hh => (kf hh p e R s m args below meth c H locs cells slots Qf ls C hR hl))
theorem z_icmp_eq {x y : Int32} {off : Int} {tgt : Nat} (hd : decode M.2.1 pc = .ok (.if_icmp .eq off, 3)) (ht : (pc : Int) + off = (tgt : Int)) (kt : x = y → Z l G M d tgt L st σ Q) (kf : ¬ x = y → Z l G M d (pc + 3) L st σ Q) : Z l G M d pc L (.int y :: .int x :: st) σ Q := by
  intro p e R s m args below meth c H locs cells slots Qf ls C hR hl
  exact lv_icmp_eq C.1 C.2.1 hd ht (fun hh => (kt hh p e R s m args below meth c H locs cells slots Qf ls C hR hl)) (fun hh => (kf hh p e R s m args below meth c H locs cells slots Qf ls C hR hl))
theorem z_lc_eq {x y : Int64} {off : Int} {tgt : Nat} (hd0 : decode M.2.1 pc = .ok (.lcmp, 1)) (hd : decode M.2.1 (pc + 1) = .ok (.ifCond .eq off, 3)) (ht : ((pc + 1 : Nat) : Int) + off = (tgt : Int)) (kt : x = y → Z l G M d tgt L st σ Q) (kf : ¬ x = y → Z l G M d (pc + 4) L st σ Q) : Z l G M d pc L (.long y :: .long x :: st) σ Q := by
  intro p e R s m args below meth c H locs cells slots Qf ls C hR hl
  exact W.lcmp C.1 C.2.1 hd0 (lv_if_eq C.1 C.2.1 hd ht (fun hh => (kt ((lg_cmp_eq x y).mp hh) p e R s m args below meth c H locs cells slots Qf ls C hR hl)) (fun hh => (kf ((not_congr (lg_cmp_eq x y)).mp hh) p e R s m args below meth c H locs cells slots Qf ls C hR hl)))
theorem z_if_ne {x : Int32} {off : Int} {tgt : Nat} (hd : decode M.2.1 pc = .ok (.ifCond .ne off, 3)) (ht : (pc : Int) + off = (tgt : Int)) (kt : ¬ x = 0 → Z l G M d tgt L st σ Q) (kf : x = 0 → Z l G M d (pc + 3) L st σ Q) : Z l G M d pc L (.int x :: st) σ Q := by
  intro p e R s m args below meth c H locs cells slots Qf ls C hR hl
  exact lv_if_ne C.1 C.2.1 hd ht (fun hh => (kt hh p e R s m args below meth c H locs cells slots Qf ls C hR hl)) (fun hh => (kf hh p e R s m args below meth c H locs cells slots Qf ls C hR hl))
theorem z_icmp_ne {x y : Int32} {off : Int} {tgt : Nat} (hd : decode M.2.1 pc = .ok (.if_icmp .ne off, 3)) (ht : (pc : Int) + off = (tgt : Int)) (kt : ¬ x = y → Z l G M d tgt L st σ Q) (kf : x = y → Z l G M d (pc + 3) L st σ Q) : Z l G M d pc L (.int y :: .int x :: st) σ Q := by
  intro p e R s m args below meth c H locs cells slots Qf ls C hR hl
  exact lv_icmp_ne C.1 C.2.1 hd ht (fun hh => (kt hh p e R s m args below meth c H locs cells slots Qf ls C hR hl)) (fun hh => (kf hh p e R s m args below meth c H locs cells slots Qf ls C hR hl))
theorem z_lc_ne {x y : Int64} {off : Int} {tgt : Nat} (hd0 : decode M.2.1 pc = .ok (.lcmp, 1)) (hd : decode M.2.1 (pc + 1) = .ok (.ifCond .ne off, 3)) (ht : ((pc + 1 : Nat) : Int) + off = (tgt : Int)) (kt : ¬ x = y → Z l G M d tgt L st σ Q) (kf : x = y → Z l G M d (pc + 4) L st σ Q) : Z l G M d pc L (.long y :: .long x :: st) σ Q := by
  intro p e R s m args below meth c H locs cells slots Qf ls C hR hl
  exact W.lcmp C.1 C.2.1 hd0 (lv_if_ne C.1 C.2.1 hd ht (fun hh => (kt ((not_congr (lg_cmp_eq x y)).mp hh) p e R s m args below meth c H locs cells slots Qf ls C hR hl)) (fun hh => (kf ((lg_cmp_eq x y).mp hh) p e R s m args below meth c H locs cells slots Qf ls C hR hl)))
theorem z_if_lt {x : Int32} {off : Int} {tgt : Nat} (hd : decode M.2.1 pc = .ok (.ifCond .lt off, 3)) (ht : (pc : Int) + off = (tgt : Int)) (kt : x < 0 → Z l G M d tgt L st σ Q) (kf : ¬ x < 0 → Z l G M d (pc + 3) L st σ Q) : Z l G M d pc L (.int x :: st) σ Q := by
  intro p e R s m args below meth c H locs cells slots Qf ls C hR hl
  exact lv_if_lt C.1 C.2.1 hd ht (fun hh => (kt hh p e R s m args below meth c H locs cells slots Qf ls C hR hl)) (fun hh => (kf hh p e R s m args below meth c H locs cells slots Qf ls C hR hl))
theorem z_icmp_lt {x y : Int32} {off : Int} {tgt : Nat} (hd : decode M.2.1 pc = .ok (.if_icmp .lt off, 3)) (ht : (pc : Int) + off = (tgt : Int)) (kt : x < y → Z l G M d tgt L st σ Q) (kf : ¬ x < y → Z l G M d (pc + 3) L st σ Q) : Z l G M d pc L (.int y :: .int x :: st) σ Q := by
  intro p e R s m args below meth c H locs cells slots Qf ls C hR hl
  exact lv_icmp_lt C.1 C.2.1 hd ht (fun hh => (kt hh p e R s m args below meth c H locs cells slots Qf ls C hR hl)) (fun hh => (kf hh p e R s m args below meth c H locs cells slots Qf ls C hR hl))
theorem z_lc_lt {x y : Int64} {off : Int} {tgt : Nat} (hd0 : decode M.2.1 pc = .ok (.lcmp, 1)) (hd : decode M.2.1 (pc + 1) = .ok (.ifCond .lt off, 3)) (ht : ((pc + 1 : Nat) : Int) + off = (tgt : Int)) (kt : x < y → Z l G M d tgt L st σ Q) (kf : ¬ x < y → Z l G M d (pc + 4) L st σ Q) : Z l G M d pc L (.long y :: .long x :: st) σ Q := by
  intro p e R s m args below meth c H locs cells slots Qf ls C hR hl
  exact W.lcmp C.1 C.2.1 hd0 (lv_if_lt C.1 C.2.1 hd ht (fun hh => (kt ((lg_cmp_lt x y).mp hh) p e R s m args below meth c H locs cells slots Qf ls C hR hl)) (fun hh => (kf ((not_congr (lg_cmp_lt x y)).mp hh) p e R s m args below meth c H locs cells slots Qf ls C hR hl)))
theorem z_if_ge {x : Int32} {off : Int} {tgt : Nat} (hd : decode M.2.1 pc = .ok (.ifCond .ge off, 3)) (ht : (pc : Int) + off = (tgt : Int)) (kt : 0 ≤ x → Z l G M d tgt L st σ Q) (kf : ¬ 0 ≤ x → Z l G M d (pc + 3) L st σ Q) : Z l G M d pc L (.int x :: st) σ Q := by
  intro p e R s m args below meth c H locs cells slots Qf ls C hR hl
  exact lv_if_ge C.1 C.2.1 hd ht (fun hh => (kt hh p e R s m args below meth c H locs cells slots Qf ls C hR hl)) (fun hh => (kf hh p e R s m args below meth c H locs cells slots Qf ls C hR hl))
theorem z_icmp_ge {x y : Int32} {off : Int} {tgt : Nat} (hd : decode M.2.1 pc = .ok (.if_icmp .ge off, 3)) (ht : (pc : Int) + off = (tgt : Int)) (kt : y ≤ x → Z l G M d tgt L st σ Q) (kf : ¬ y ≤ x → Z l G M d (pc + 3) L st σ Q) : Z l G M d pc L (.int y :: .int x :: st) σ Q := by
  intro p e R s m args below meth c H locs cells slots Qf ls C hR hl
  exact lv_icmp_ge C.1 C.2.1 hd ht (fun hh => (kt hh p e R s m args below meth c H locs cells slots Qf ls C hR hl)) (fun hh => (kf hh p e R s m args below meth c H locs cells slots Qf ls C hR hl))
theorem z_lc_ge {x y : Int64} {off : Int} {tgt : Nat} (hd0 : decode M.2.1 pc = .ok (.lcmp, 1)) (hd : decode M.2.1 (pc + 1) = .ok (.ifCond .ge off, 3)) (ht : ((pc + 1 : Nat) : Int) + off = (tgt : Int)) (kt : y ≤ x → Z l G M d tgt L st σ Q) (kf : ¬ y ≤ x → Z l G M d (pc + 4) L st σ Q) : Z l G M d pc L (.long y :: .long x :: st) σ Q := by
  intro p e R s m args below meth c H locs cells slots Qf ls C hR hl
  exact W.lcmp C.1 C.2.1 hd0 (lv_if_ge C.1 C.2.1 hd ht (fun hh => (kt ((lg_cmp_ge x y).mp hh) p e R s m args below meth c H locs cells slots Qf ls C hR hl)) (fun hh => (kf ((not_congr (lg_cmp_ge x y)).mp hh) p e R s m args below meth c H locs cells slots Qf ls C hR hl)))
theorem z_if_gt {x : Int32} {off : Int} {tgt : Nat} (hd : decode M.2.1 pc = .ok (.ifCond .gt off, 3)) (ht : (pc : Int) + off = (tgt : Int)) (kt : 0 < x → Z l G M d tgt L st σ Q) (kf : ¬ 0 < x → Z l G M d (pc + 3) L st σ Q) : Z l G M d pc L (.int x :: st) σ Q := by
  intro p e R s m args below meth c H locs cells slots Qf ls C hR hl
  exact lv_if_gt C.1 C.2.1 hd ht (fun hh => (kt hh p e R s m args below meth c H locs cells slots Qf ls C hR hl)) (fun hh => (kf hh p e R s m args below meth c H locs cells slots Qf ls C hR hl))
theorem z_icmp_gt {x y : Int32} {off : Int} {tgt : Nat} (hd : decode M.2.1 pc = .ok (.if_icmp .gt off, 3)) (ht : (pc : Int) + off = (tgt : Int)) (kt : y < x → Z l G M d tgt L st σ Q) (kf : ¬ y < x → Z l G M d (pc + 3) L st σ Q) : Z l G M d pc L (.int y :: .int x :: st) σ Q := by
  intro p e R s m args below meth c H locs cells slots Qf ls C hR hl
  exact lv_icmp_gt C.1 C.2.1 hd ht (fun hh => (kt hh p e R s m args below meth c H locs cells slots Qf ls C hR hl)) (fun hh => (kf hh p e R s m args below meth c H locs cells slots Qf ls C hR hl))
theorem z_lc_gt {x y : Int64} {off : Int} {tgt : Nat} (hd0 : decode M.2.1 pc = .ok (.lcmp, 1)) (hd : decode M.2.1 (pc + 1) = .ok (.ifCond .gt off, 3)) (ht : ((pc + 1 : Nat) : Int) + off = (tgt : Int)) (kt : y < x → Z l G M d tgt L st σ Q) (kf : ¬ y < x → Z l G M d (pc + 4) L st σ Q) : Z l G M d pc L (.long y :: .long x :: st) σ Q := by
  intro p e R s m args below meth c H locs cells slots Qf ls C hR hl
  exact W.lcmp C.1 C.2.1 hd0 (lv_if_gt C.1 C.2.1 hd ht (fun hh => (kt ((lg_cmp_gt x y).mp hh) p e R s m args below meth c H locs cells slots Qf ls C hR hl)) (fun hh => (kf ((not_congr (lg_cmp_gt x y)).mp hh) p e R s m args below meth c H locs cells slots Qf ls C hR hl)))
theorem z_if_le {x : Int32} {off : Int} {tgt : Nat} (hd : decode M.2.1 pc = .ok (.ifCond .le off, 3)) (ht : (pc : Int) + off = (tgt : Int)) (kt : x ≤ 0 → Z l G M d tgt L st σ Q) (kf : ¬ x ≤ 0 → Z l G M d (pc + 3) L st σ Q) : Z l G M d pc L (.int x :: st) σ Q := by
  intro p e R s m args below meth c H locs cells slots Qf ls C hR hl
  exact lv_if_le C.1 C.2.1 hd ht (fun hh => (kt hh p e R s m args below meth c H locs cells slots Qf ls C hR hl)) (fun hh => (kf hh p e R s m args below meth c H locs cells slots Qf ls C hR hl))
theorem z_icmp_le {x y : Int32} {off : Int} {tgt : Nat} (hd : decode M.2.1 pc = .ok (.if_icmp .le off, 3)) (ht : (pc : Int) + off = (tgt : Int)) (kt : x ≤ y → Z l G M d tgt L st σ Q) (kf : ¬ x ≤ y → Z l G M d (pc + 3) L st σ Q) : Z l G M d pc L (.int y :: .int x :: st) σ Q := by
  intro p e R s m args below meth c H locs cells slots Qf ls C hR hl
  exact lv_icmp_le C.1 C.2.1 hd ht (fun hh => (kt hh p e R s m args below meth c H locs cells slots Qf ls C hR hl)) (fun hh => (kf hh p e R s m args below meth c H locs cells slots Qf ls C hR hl))
theorem z_lc_le {x y : Int64} {off : Int} {tgt : Nat} (hd0 : decode M.2.1 pc = .ok (.lcmp, 1)) (hd : decode M.2.1 (pc + 1) = .ok (.ifCond .le off, 3)) (ht : ((pc + 1 : Nat) : Int) + off = (tgt : Int)) (kt : x ≤ y → Z l G M d tgt L st σ Q) (kf : ¬ x ≤ y → Z l G M d (pc + 4) L st σ Q) : Z l G M d pc L (.long y :: .long x :: st) σ Q := by
  intro p e R s m args below meth c H locs cells slots Qf ls C hR hl
  exact W.lcmp C.1 C.2.1 hd0 (lv_if_le C.1 C.2.1 hd ht (fun hh => (kt ((lg_cmp_le x y).mp hh) p e R s m args below meth c H locs cells slots Qf ls C hR hl)) (fun hh => (kf ((not_congr (lg_cmp_le x y)).mp hh) p e R s m args below meth c H locs cells slots Qf ls C hR hl)))
theorem z_goto {off : Int} {tgt : Nat} (hd : decode M.2.1 pc = .ok (.goto off, 3)) (ht : (pc : Int) + off = (tgt : Int)) (k : Z l G M d tgt L st σ Q) : Z l G M d pc L st σ Q := by
  intro p e R s m args below meth c H locs cells slots Qf ls C hR hl
  exact lv_goto C.1 C.2.1 hd ht (k p e R s m args below meth c H locs cells slots Qf ls C hR hl)
theorem z_swOut {dflt lo hi : Int} {offs : Array Int} {len : Nat} {x : Int32} {tgt : Nat} (hd : decode M.2.1 pc = .ok (.tableswitch dflt lo hi offs, len)) (h : x.toInt < lo ∨ hi < x.toInt) (ht : (pc : Int) + dflt = (tgt : Int)) (k : Z l G M d tgt L st σ Q) : Z l G M d pc L (.int x :: st) σ Q := by
  intro p e R s m args below meth c H locs cells slots Qf ls C hR hl
  exact lv_tableOut C.1 C.2.1 hd h ht (k p e R s m args below meth c H locs cells slots Qf ls C hR hl)
theorem z_swIn {dflt lo hi : Int} {offs : Array Int} {len : Nat} {x : Int32} {off : Int} {tgt : Nat} (hd : decode M.2.1 pc = .ok (.tableswitch dflt lo hi offs, len)) (h1 : ¬ x.toInt < lo) (h2 : ¬ hi < x.toInt) (ho : offs[(x.toInt - lo).toNat]? = some off) (ht : (pc : Int) + off = (tgt : Int)) (k : Z l G M d tgt L st σ Q) : Z l G M d pc L (.int x :: st) σ Q := by
  intro p e R s m args below meth c H locs cells slots Qf ls C hR hl
  exact lv_tableIn C.1 C.2.1 hd h1 h2 ho ht (k p e R s m args below meth c H locs cells slots Qf ls C hR hl)
theorem z_iret {x : Int32} (hd : decode M.2.1 pc = .ok (.ireturn, 1)) (hr : M.2.2.2 = some .int) (h : Q (some (.int x)) σ) : Z l G M d pc L [.int x] σ Q := by
  intro p e R s m args below meth c H locs cells slots Qf ls C hR hl
  exact C.2.2.2.2.2.2.2.2.2.2 pc (some (.int x)) σ H locs ls h hR ⟨hd, .int, hr, rfl⟩
theorem z_zret {x : Int32} (hd : decode M.2.1 pc = .ok (.ireturn, 1)) (hr : M.2.2.2 = some .boolean) (h1 : x = 0 ∨ x = 1) (h : Q (some (.int x)) σ) : Z l G M d pc L [.int x] σ Q := by
  intro p e R s m args below meth c H locs cells slots Qf ls C hR hl
  exact C.2.2.2.2.2.2.2.2.2.2 pc (some (.int x)) σ H locs ls h hR ⟨hd, .boolean, hr, by rcases h1 with rfl | rfl <;> rfl⟩
theorem z_lret {x : Int64} (hd : decode M.2.1 pc = .ok (.lreturn, 1)) (hr : M.2.2.2 = some .long) (h : Q (some (.long x)) σ) : Z l G M d pc L [.long x] σ Q := by
  intro p e R s m args below meth c H locs cells slots Qf ls C hR hl
  exact C.2.2.2.2.2.2.2.2.2.2 pc (some (.long x)) σ H locs ls h hR ⟨hd, hr⟩
theorem z_aret {a : Nat} {ty : FieldType} (hd : decode M.2.1 pc = .ok (.areturn, 1)) (hr : M.2.2.2 = some ty) (ht : (∃ n, ty = .object n) ∨ ∃ t, ty = .array t) (h : Q (some (.ref a)) σ) : Z l G M d pc L [.ref a] σ Q := by
  intro p e R s m args below meth c H locs cells slots Qf ls C hR hl
  exact C.2.2.2.2.2.2.2.2.2.2 pc (some (.ref a)) σ H locs ls h hR ⟨hd, ty, hr, ht⟩
theorem z_vret (hd : decode M.2.1 pc = .ok (.return_, 1)) (hr : M.2.2.2 = none) (h : Q none σ) : Z l G M d pc L [] σ Q := by
  intro p e R s m args below meth c H locs cells slots Qf ls C hR hl
  exact C.2.2.2.2.2.2.2.2.2.2 pc none σ H locs ls h hR ⟨hd, hr⟩
end ZO
