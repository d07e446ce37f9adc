/-! constructors: what the tables say -/
theorem oi_i : Cond.instanceMethod Lib.objectInit ∈ lw_tbl := (List.mem_append_right _ (List.mem_of_getElem? (i := 21) (by decide +kernel)))
theorem oi_c : Cond.code Lib.objectInit ⟨#[0xb1]⟩ 1 none ∈ lw_tbl := (List.mem_append_right _ (List.mem_of_getElem? (i := 22) (by decide +kernel)))
theorem oi_X10_1 : Cond.methodLink RX10 1 Lib.objectInit ∈ lw_tbl := (List.mem_append_right _ (List.mem_of_getElem? (i := 20) (by decide +kernel)))
theorem oi_X0_3 : Cond.methodLink RX0 3 Lib.objectInit ∈ lw_tbl := (List.mem_append_right _ (List.mem_of_getElem? (i := 29) (by decide +kernel)))
theorem oi_X6_3 : Cond.methodLink RX6 3 Lib.objectInit ∈ lw_tbl := (List.mem_append_right _ (List.mem_of_getElem? (i := 54) (by decide +kernel)))
theorem oi_X1_1 : Cond.methodLink RX1 1 Lib.objectInit ∈ lw_tbl := (List.mem_append_right _ (List.mem_of_getElem? (i := 96) (by decide +kernel)))
theorem oi_X9_1 : Cond.methodLink RX9 1 Lib.objectInit ∈ lw_tbl := (List.mem_append_right _ (List.mem_of_getElem? (i := 118) (by decide +kernel)))
theorem oi_X4_3 : Cond.methodLink RX4 3 Lib.objectInit ∈ lw_tbl := (List.mem_append_right _ (List.mem_of_getElem? (i := 134) (by decide +kernel)))
theorem oi_X7_3 : Cond.methodLink RX7 3 Lib.objectInit ∈ lw_tbl := (List.mem_append_right _ (List.mem_of_getElem? (i := 156) (by decide +kernel)))
theorem oi_X5_3 : Cond.methodLink RX5 3 Lib.objectInit ∈ lw_tbl := (List.mem_append_right _ (List.mem_of_getElem? (i := 200) (by decide +kernel)))
theorem oi_X3_3 : Cond.methodLink RX3 3 Lib.objectInit ∈ lw_tbl := (List.mem_append_right _ (List.mem_of_getElem? (i := 253) (by decide +kernel)))
theorem oi_X2_3 : Cond.methodLink RX2 3 Lib.objectInit ∈ lw_tbl := (List.mem_append_right _ (List.mem_of_getElem? (i := 271) (by decide +kernel)))
theorem oi_X8_3 : Cond.methodLink RX8 3 Lib.objectInit ∈ lw_tbl := (List.mem_append_right _ (List.mem_of_getElem? (i := 300) (by decide +kernel)))
theorem oi_X11_1 : Cond.methodLink RX11 1 Lib.objectInit ∈ lw_tbl := (List.mem_append_right _ (List.mem_of_getElem? (i := 758) (by decide +kernel)))
theorem ac_int : Cond.arrayClass .int ∈ lw_tbl := (List.mem_append_right _ (List.mem_of_getElem? (i := 128) (by decide +kernel)))
theorem ac_long : Cond.arrayClass .long ∈ lw_tbl := (List.mem_append_right _ (List.mem_of_getElem? (i := 47) (by decide +kernel)))
theorem ac_boolean : Cond.arrayClass .boolean ∈ lw_tbl := (List.mem_append_right _ (List.mem_of_getElem? (i := 881) (by decide +kernel)))
set_option maxRecDepth 20000 in
theorem uw_X0 : ∀ w ∈ u_ws RX0 TX0 4, w ∈ lw_tbl := by decide +kernel
theorem nd_X0 : ∀ j, j < 4 → defaultValue (tyX0 j) = vp_V (dfl 0) j := by
  intro j hj
  rcases (show j = 0 ∨ j = 1 ∨ j = 2 ∨ j = 3 by omega) with rfl | rfl | rfl | rfl <;> rfl
theorem in_X0 : Cond.instantiable RX0 4 ∈ lw_tbl := (List.mem_append_right _ (List.mem_of_getElem? (i := 25) (by decide +kernel)))
set_option maxRecDepth 20000 in
theorem uw_X1 : ∀ w ∈ u_ws RX1 TX1 4, w ∈ lw_tbl := by decide +kernel
theorem nd_X1 : ∀ j, j < 4 → defaultValue (tyX1 j) = vp_V (dfl 1) j := by
  intro j hj
  rcases (show j = 0 ∨ j = 1 ∨ j = 2 ∨ j = 3 by omega) with rfl | rfl | rfl | rfl <;> rfl
theorem in_X1 : Cond.instantiable RX1 4 ∈ lw_tbl := (List.mem_append_right _ (List.mem_of_getElem? (i := 92) (by decide +kernel)))
set_option maxRecDepth 20000 in
theorem uw_X2 : ∀ w ∈ u_ws RX2 TX2 7, w ∈ lw_tbl := by decide +kernel
theorem nd_X2 : ∀ j, j < 7 → defaultValue (tyX2 j) = vp_V (dfl 2) j := by
  intro j hj
  rcases (show j = 0 ∨ j = 1 ∨ j = 2 ∨ j = 3 ∨ j = 4 ∨ j = 5 ∨ j = 6 by omega) with rfl | rfl | rfl | rfl | rfl | rfl | rfl <;> rfl
theorem in_X2 : Cond.instantiable RX2 7 ∈ lw_tbl := (List.mem_append_right _ (List.mem_of_getElem? (i := 267) (by decide +kernel)))
set_option maxRecDepth 20000 in
theorem uw_X3 : ∀ w ∈ u_ws RX3 TX3 3, w ∈ lw_tbl := by decide +kernel
theorem nd_X3 : ∀ j, j < 3 → defaultValue (tyX3 j) = vp_V (dfl 3) j := by
  intro j hj
  rcases (show j = 0 ∨ j = 1 ∨ j = 2 by omega) with rfl | rfl | rfl <;> rfl
theorem in_X3 : Cond.instantiable RX3 3 ∈ lw_tbl := (List.mem_append_right _ (List.mem_of_getElem? (i := 249) (by decide +kernel)))
set_option maxRecDepth 20000 in
theorem uw_X4 : ∀ w ∈ u_ws RX4 TX4 3, w ∈ lw_tbl := by decide +kernel
theorem nd_X4 : ∀ j, j < 3 → defaultValue (tyX4 j) = vp_V (dfl 4) j := by
  intro j hj
  rcases (show j = 0 ∨ j = 1 ∨ j = 2 by omega) with rfl | rfl | rfl <;> rfl
theorem in_X4 : Cond.instantiable RX4 3 ∈ lw_tbl := (List.mem_append_right _ (List.mem_of_getElem? (i := 130) (by decide +kernel)))
set_option maxRecDepth 20000 in
theorem uw_X5 : ∀ w ∈ u_ws RX5 TX5 11, w ∈ lw_tbl := by decide +kernel
theorem nd_X5 : ∀ j, j < 11 → defaultValue (tyX5 j) = vp_V (dfl 5) j := by
  intro j hj
  rcases (show j = 0 ∨ j = 1 ∨ j = 2 ∨ j = 3 ∨ j = 4 ∨ j = 5 ∨ j = 6 ∨ j = 7 ∨ j = 8 ∨ j = 9 ∨ j = 10 by omega) with rfl | rfl | rfl | rfl | rfl | rfl | rfl | rfl | rfl | rfl | rfl <;> rfl
theorem in_X5 : Cond.instantiable RX5 11 ∈ lw_tbl := (List.mem_append_right _ (List.mem_of_getElem? (i := 196) (by decide +kernel)))
set_option maxRecDepth 20000 in
theorem uw_X6 : ∀ w ∈ u_ws RX6 TX6 8, w ∈ lw_tbl := by decide +kernel
theorem nd_X6 : ∀ j, j < 8 → defaultValue (tyX6 j) = vp_V (dfl 6) j := by
  intro j hj
  rcases (show j = 0 ∨ j = 1 ∨ j = 2 ∨ j = 3 ∨ j = 4 ∨ j = 5 ∨ j = 6 ∨ j = 7 by omega) with rfl | rfl | rfl | rfl | rfl | rfl | rfl | rfl <;> rfl
theorem in_X6 : Cond.instantiable RX6 8 ∈ lw_tbl := (List.mem_append_right _ (List.mem_of_getElem? (i := 50) (by decide +kernel)))
set_option maxRecDepth 20000 in
theorem uw_X7 : ∀ w ∈ u_ws RX7 TX7 8, w ∈ lw_tbl := by decide +kernel
theorem nd_X7 : ∀ j, j < 8 → defaultValue (tyX7 j) = vp_V (dfl 7) j := by
  intro j hj
  rcases (show j = 0 ∨ j = 1 ∨ j = 2 ∨ j = 3 ∨ j = 4 ∨ j = 5 ∨ j = 6 ∨ j = 7 by omega) with rfl | rfl | rfl | rfl | rfl | rfl | rfl | rfl <;> rfl
theorem in_X7 : Cond.instantiable RX7 8 ∈ lw_tbl := (List.mem_append_right _ (List.mem_of_getElem? (i := 152) (by decide +kernel)))
set_option maxRecDepth 20000 in
theorem uw_X8 : ∀ w ∈ u_ws RX8 TX8 4, w ∈ lw_tbl := by decide +kernel
theorem nd_X8 : ∀ j, j < 4 → defaultValue (tyX8 j) = vp_V (dfl 8) j := by
  intro j hj
  rcases (show j = 0 ∨ j = 1 ∨ j = 2 ∨ j = 3 by omega) with rfl | rfl | rfl | rfl <;> rfl
theorem in_X8 : Cond.instantiable RX8 4 ∈ lw_tbl := (List.mem_append_right _ (List.mem_of_getElem? (i := 296) (by decide +kernel)))
set_option maxRecDepth 20000 in
theorem uw_X9 : ∀ w ∈ u_ws RX9 TX9 2, w ∈ lw_tbl := by decide +kernel
theorem nd_X9 : ∀ j, j < 2 → defaultValue (tyX9 j) = vp_V (dfl 9) j := by
  intro j hj
  rcases (show j = 0 ∨ j = 1 by omega) with rfl | rfl <;> rfl
theorem in_X9 : Cond.instantiable RX9 2 ∈ lw_tbl := (List.mem_append_right _ (List.mem_of_getElem? (i := 114) (by decide +kernel)))
set_option maxRecDepth 20000 in
theorem uw_X10 : ∀ w ∈ u_ws RX10 TX10 13, w ∈ lw_tbl := by decide +kernel
theorem nd_X10 : ∀ j, j < 13 → defaultValue (tyX10 j) = vp_V (dfl 10) j := by
  intro j hj
  rcases (show j = 0 ∨ j = 1 ∨ j = 2 ∨ j = 3 ∨ j = 4 ∨ j = 5 ∨ j = 6 ∨ j = 7 ∨ j = 8 ∨ j = 9 ∨ j = 10 ∨ j = 11 ∨ j = 12 by omega) with rfl | rfl | rfl | rfl | rfl | rfl | rfl | rfl | rfl | rfl | rfl | rfl | rfl <;> rfl
theorem in_X10 : Cond.instantiable RX10 13 ∈ lw_tbl := (List.mem_append_right _ (List.mem_of_getElem? (i := 16) (by decide +kernel)))
set_option maxRecDepth 20000 in
theorem uw_X11 : ∀ w ∈ u_ws RX11 TX11 40, w ∈ lw_tbl := by decide +kernel
theorem nd_X11 : ∀ j, j < 40 → defaultValue (tyX11 j) = vp_V (dfl 11) j := by
  intro j hj
  rcases (show j = 0 ∨ j = 1 ∨ j = 2 ∨ j = 3 ∨ j = 4 ∨ j = 5 ∨ j = 6 ∨ j = 7 ∨ j = 8 ∨ j = 9 ∨ j = 10 ∨ j = 11 ∨ j = 12 ∨ j = 13 ∨ j = 14 ∨ j = 15 ∨ j = 16 ∨ j = 17 ∨ j = 18 ∨ j = 19 ∨ j = 20 ∨ j = 21 ∨ j = 22 ∨ j = 23 ∨ j = 24 ∨ j = 25 ∨ j = 26 ∨ j = 27 ∨ j = 28 ∨ j = 29 ∨ j = 30 ∨ j = 31 ∨ j = 32 ∨ j = 33 ∨ j = 34 ∨ j = 35 ∨ j = 36 ∨ j = 37 ∨ j = 38 ∨ j = 39 by omega) with rfl | rfl | rfl | rfl | rfl | rfl | rfl | rfl | rfl | rfl | rfl | rfl | rfl | rfl | rfl | rfl | rfl | rfl | rfl | rfl | rfl | rfl | rfl | rfl | rfl | rfl | rfl | rfl | rfl | rfl | rfl | rfl | rfl | rfl | rfl | rfl | rfl | rfl | rfl | rfl <;> rfl
theorem in_X11 : Cond.instantiable RX11 40 ∈ lw_tbl := (List.mem_append_right _ (List.mem_of_getElem? (i := 754) (by decide +kernel)))
theorem cl_L_7 : Cond.classLink "FurrowFieldLaw" 7 RX10 ∈ lw_tbl := (List.mem_append_right _ (List.mem_of_getElem? (i := 15) (by decide +kernel)))
theorem nw_L_7 : NWc "FurrowFieldLaw" 7 10 := ⟨_, tyX10, rfl, uw_X10, tyX10_ok, nd_X10, in_X10, kn_X10, rfl, cl_L_7⟩
theorem ci_L_9 : CI "FurrowFieldLaw" 9 M_X10_init 0 := ⟨(List.mem_append_right _ (List.mem_of_getElem? (i := 19) (by decide +kernel))), (List.mem_append_right _ (List.mem_of_getElem? (i := 18) (by decide +kernel))), kn_X10, rfl, rfl, by decide +kernel, by decide +kernel, by decide +kernel, by decide +kernel, by decide, (Or.inl (List.mem_append_right _ (List.mem_of_getElem? (i := 17) (by decide +kernel))))⟩
theorem cl_X10_9 : Cond.classLink RX10 9 RX0 ∈ lw_tbl := (List.mem_append_right _ (List.mem_of_getElem? (i := 23) (by decide +kernel)))
theorem nw_X10_9 : NWc RX10 9 0 := ⟨_, tyX0, rfl, uw_X0, tyX0_ok, nd_X0, in_X0, kn_X0, rfl, cl_X10_9⟩
theorem ci_X10_15 : CI RX10 15 M_X0_init 0 := ⟨(List.mem_append_right _ (List.mem_of_getElem? (i := 28) (by decide +kernel))), (List.mem_append_right _ (List.mem_of_getElem? (i := 27) (by decide +kernel))), kn_X0, rfl, rfl, by decide +kernel, by decide +kernel, by decide +kernel, by decide +kernel, by decide, (Or.inr ⟨"FurrowField", (List.mem_append_right _ (List.mem_of_getElem? (i := 26) (by decide +kernel)))⟩)⟩
theorem cl_X10_16 : Cond.classLink RX10 16 RX6 ∈ lw_tbl := (List.mem_append_right _ (List.mem_of_getElem? (i := 48) (by decide +kernel)))
theorem nw_X10_16 : NWc RX10 16 6 := ⟨_, tyX6, rfl, uw_X6, tyX6_ok, nd_X6, in_X6, kn_X6, rfl, cl_X10_16⟩
theorem ci_X10_22 : CI RX10 22 M_X6_init 0 := ⟨(List.mem_append_right _ (List.mem_of_getElem? (i := 53) (by decide +kernel))), (List.mem_append_right _ (List.mem_of_getElem? (i := 52) (by decide +kernel))), kn_X6, rfl, rfl, by decide +kernel, by decide +kernel, by decide +kernel, by decide +kernel, by decide, (Or.inr ⟨"FurrowField", (List.mem_append_right _ (List.mem_of_getElem? (i := 51) (by decide +kernel)))⟩)⟩
theorem cl_X10_23 : Cond.classLink RX10 23 RX1 ∈ lw_tbl := (List.mem_append_right _ (List.mem_of_getElem? (i := 91) (by decide +kernel)))
theorem nw_X10_23 : NWc RX10 23 1 := ⟨_, tyX1, rfl, uw_X1, tyX1_ok, nd_X1, in_X1, kn_X1, rfl, cl_X10_23⟩
theorem ci_X10_25 : CI RX10 25 M_X1_init 0 := ⟨(List.mem_append_right _ (List.mem_of_getElem? (i := 95) (by decide +kernel))), (List.mem_append_right _ (List.mem_of_getElem? (i := 94) (by decide +kernel))), kn_X1, rfl, rfl, by decide +kernel, by decide +kernel, by decide +kernel, by decide +kernel, by decide, (Or.inr ⟨"FurrowField", (List.mem_append_right _ (List.mem_of_getElem? (i := 93) (by decide +kernel)))⟩)⟩
theorem cl_X1_7 : Cond.classLink RX1 7 RX6 ∈ lw_tbl := (List.mem_append_right _ (List.mem_of_getElem? (i := 97) (by decide +kernel)))
theorem nw_X1_7 : NWc RX1 7 6 := ⟨_, tyX6, rfl, uw_X6, tyX6_ok, nd_X6, in_X6, kn_X6, rfl, cl_X1_7⟩
theorem ci_X1_9 : CI RX1 9 M_X6_init 0 := ⟨(List.mem_append_right _ (List.mem_of_getElem? (i := 53) (by decide +kernel))), (List.mem_append_right _ (List.mem_of_getElem? (i := 52) (by decide +kernel))), kn_X6, rfl, rfl, by decide +kernel, by decide +kernel, by decide +kernel, by decide +kernel, by decide, (Or.inr ⟨"FurrowField", (List.mem_append_right _ (List.mem_of_getElem? (i := 98) (by decide +kernel)))⟩)⟩
theorem cl_X10_30 : Cond.classLink RX10 30 RX9 ∈ lw_tbl := (List.mem_append_right _ (List.mem_of_getElem? (i := 113) (by decide +kernel)))
theorem nw_X10_30 : NWc RX10 30 9 := ⟨_, tyX9, rfl, uw_X9, tyX9_ok, nd_X9, in_X9, kn_X9, rfl, cl_X10_30⟩
theorem ci_X10_32 : CI RX10 32 M_X9_init 1 := ⟨(List.mem_append_right _ (List.mem_of_getElem? (i := 117) (by decide +kernel))), (List.mem_append_right _ (List.mem_of_getElem? (i := 116) (by decide +kernel))), kn_X9, rfl, rfl, by decide +kernel, by decide +kernel, by decide +kernel, by decide +kernel, by decide, (Or.inl (List.mem_append_right _ (List.mem_of_getElem? (i := 115) (by decide +kernel))))⟩
theorem cl_X10_42 : Cond.classLink RX10 42 RX4 ∈ lw_tbl := (List.mem_append_right _ (List.mem_of_getElem? (i := 129) (by decide +kernel)))
theorem nw_X10_42 : NWc RX10 42 4 := ⟨_, tyX4, rfl, uw_X4, tyX4_ok, nd_X4, in_X4, kn_X4, rfl, cl_X10_42⟩
theorem ci_X10_44 : CI RX10 44 M_X4_init 0 := ⟨(List.mem_append_right _ (List.mem_of_getElem? (i := 133) (by decide +kernel))), (List.mem_append_right _ (List.mem_of_getElem? (i := 132) (by decide +kernel))), kn_X4, rfl, rfl, by decide +kernel, by decide +kernel, by decide +kernel, by decide +kernel, by decide, (Or.inr ⟨"FurrowField", (List.mem_append_right _ (List.mem_of_getElem? (i := 131) (by decide +kernel)))⟩)⟩
theorem cl_X10_49 : Cond.classLink RX10 49 RX7 ∈ lw_tbl := (List.mem_append_right _ (List.mem_of_getElem? (i := 151) (by decide +kernel)))
theorem nw_X10_49 : NWc RX10 49 7 := ⟨_, tyX7, rfl, uw_X7, tyX7_ok, nd_X7, in_X7, kn_X7, rfl, cl_X10_49⟩
theorem ci_X10_51 : CI RX10 51 M_X7_init 0 := ⟨(List.mem_append_right _ (List.mem_of_getElem? (i := 155) (by decide +kernel))), (List.mem_append_right _ (List.mem_of_getElem? (i := 154) (by decide +kernel))), kn_X7, rfl, rfl, by decide +kernel, by decide +kernel, by decide +kernel, by decide +kernel, by decide, (Or.inr ⟨"FurrowField", (List.mem_append_right _ (List.mem_of_getElem? (i := 153) (by decide +kernel)))⟩)⟩
theorem cl_X10_56 : Cond.classLink RX10 56 RX5 ∈ lw_tbl := (List.mem_append_right _ (List.mem_of_getElem? (i := 195) (by decide +kernel)))
theorem nw_X10_56 : NWc RX10 56 5 := ⟨_, tyX5, rfl, uw_X5, tyX5_ok, nd_X5, in_X5, kn_X5, rfl, cl_X10_56⟩
theorem ci_X10_58 : CI RX10 58 M_X5_init 0 := ⟨(List.mem_append_right _ (List.mem_of_getElem? (i := 199) (by decide +kernel))), (List.mem_append_right _ (List.mem_of_getElem? (i := 198) (by decide +kernel))), kn_X5, rfl, rfl, by decide +kernel, by decide +kernel, by decide +kernel, by decide +kernel, by decide, (Or.inr ⟨"FurrowField", (List.mem_append_right _ (List.mem_of_getElem? (i := 197) (by decide +kernel)))⟩)⟩
theorem cl_X5_24 : Cond.classLink RX5 24 RX4 ∈ lw_tbl := (List.mem_append_right _ (List.mem_of_getElem? (i := 201) (by decide +kernel)))
theorem nw_X5_24 : NWc RX5 24 4 := ⟨_, tyX4, rfl, uw_X4, tyX4_ok, nd_X4, in_X4, kn_X4, rfl, cl_X5_24⟩
theorem ci_X5_26 : CI RX5 26 M_X4_init 0 := ⟨(List.mem_append_right _ (List.mem_of_getElem? (i := 133) (by decide +kernel))), (List.mem_append_right _ (List.mem_of_getElem? (i := 132) (by decide +kernel))), kn_X4, rfl, rfl, by decide +kernel, by decide +kernel, by decide +kernel, by decide +kernel, by decide, (Or.inr ⟨"FurrowField", (List.mem_append_right _ (List.mem_of_getElem? (i := 202) (by decide +kernel)))⟩)⟩
theorem cl_X10_63 : Cond.classLink RX10 63 RX3 ∈ lw_tbl := (List.mem_append_right _ (List.mem_of_getElem? (i := 248) (by decide +kernel)))
theorem nw_X10_63 : NWc RX10 63 3 := ⟨_, tyX3, rfl, uw_X3, tyX3_ok, nd_X3, in_X3, kn_X3, rfl, cl_X10_63⟩
theorem ci_X10_65 : CI RX10 65 M_X3_init 0 := ⟨(List.mem_append_right _ (List.mem_of_getElem? (i := 252) (by decide +kernel))), (List.mem_append_right _ (List.mem_of_getElem? (i := 251) (by decide +kernel))), kn_X3, rfl, rfl, by decide +kernel, by decide +kernel, by decide +kernel, by decide +kernel, by decide, (Or.inr ⟨"FurrowField", (List.mem_append_right _ (List.mem_of_getElem? (i := 250) (by decide +kernel)))⟩)⟩
theorem cl_X10_70 : Cond.classLink RX10 70 RX2 ∈ lw_tbl := (List.mem_append_right _ (List.mem_of_getElem? (i := 266) (by decide +kernel)))
theorem nw_X10_70 : NWc RX10 70 2 := ⟨_, tyX2, rfl, uw_X2, tyX2_ok, nd_X2, in_X2, kn_X2, rfl, cl_X10_70⟩
theorem ci_X10_72 : CI RX10 72 M_X2_init 0 := ⟨(List.mem_append_right _ (List.mem_of_getElem? (i := 270) (by decide +kernel))), (List.mem_append_right _ (List.mem_of_getElem? (i := 269) (by decide +kernel))), kn_X2, rfl, rfl, by decide +kernel, by decide +kernel, by decide +kernel, by decide +kernel, by decide, (Or.inr ⟨"FurrowField", (List.mem_append_right _ (List.mem_of_getElem? (i := 268) (by decide +kernel)))⟩)⟩
theorem cl_X10_77 : Cond.classLink RX10 77 RX8 ∈ lw_tbl := (List.mem_append_right _ (List.mem_of_getElem? (i := 295) (by decide +kernel)))
theorem nw_X10_77 : NWc RX10 77 8 := ⟨_, tyX8, rfl, uw_X8, tyX8_ok, nd_X8, in_X8, kn_X8, rfl, cl_X10_77⟩
theorem ci_X10_79 : CI RX10 79 M_X8_init 0 := ⟨(List.mem_append_right _ (List.mem_of_getElem? (i := 299) (by decide +kernel))), (List.mem_append_right _ (List.mem_of_getElem? (i := 298) (by decide +kernel))), kn_X8, rfl, rfl, by decide +kernel, by decide +kernel, by decide +kernel, by decide +kernel, by decide, (Or.inr ⟨"FurrowField", (List.mem_append_right _ (List.mem_of_getElem? (i := 297) (by decide +kernel)))⟩)⟩
theorem cl_L_10 : Cond.classLink "FurrowFieldLaw" 10 RX11 ∈ lw_tbl := (List.mem_append_right _ (List.mem_of_getElem? (i := 753) (by decide +kernel)))
theorem nw_L_10 : NWc "FurrowFieldLaw" 10 11 := ⟨_, tyX11, rfl, uw_X11, tyX11_ok, nd_X11, in_X11, kn_X11, rfl, cl_L_10⟩
theorem ci_L_12 : CI "FurrowFieldLaw" 12 M_X11_init 0 := ⟨(List.mem_append_right _ (List.mem_of_getElem? (i := 757) (by decide +kernel))), (List.mem_append_right _ (List.mem_of_getElem? (i := 756) (by decide +kernel))), kn_X11, rfl, rfl, by decide +kernel, by decide +kernel, by decide +kernel, by decide +kernel, by decide, (Or.inl (List.mem_append_right _ (List.mem_of_getElem? (i := 755) (by decide +kernel))))⟩
theorem ff_X0_9 : FFc RX0 9 0 0 := ⟨_, tyX0, rfl, uw_X0, tyX0_ok, nmX0, by decide, (by obtain ⟨q, h1, _, h3⟩ := fk_X0_9; cases h1; exact h3), rfl, rfl, _, rfl, fun a => ⟨rfl, rfl⟩⟩
theorem ff_X1_10 : FFc RX1 10 1 0 := ⟨_, tyX1, rfl, uw_X1, tyX1_ok, nmX1, by decide, (by obtain ⟨q, h1, _, h3⟩ := fk_X1_10; cases h1; exact h3), rfl, rfl, _, rfl, fun a => ⟨rfl, rfl⟩⟩
theorem ff_X9_7 : FFc RX9 7 9 0 := ⟨_, tyX9, rfl, uw_X9, tyX9_ok, nmX9, by decide, (by obtain ⟨q, h1, _, h3⟩ := fk_X9_7; cases h1; exact h3), rfl, rfl, _, rfl, fun a => ⟨rfl, rfl⟩⟩
theorem ff_X7_9 : FFc RX7 9 7 0 := ⟨_, tyX7, rfl, uw_X7, tyX7_ok, nmX7, by decide, (by obtain ⟨q, h1, _, h3⟩ := fk_X7_9; cases h1; exact h3), rfl, rfl, _, rfl, fun a => ⟨rfl, rfl⟩⟩
theorem ff_X7_15 : FFc RX7 15 7 1 := ⟨_, tyX7, rfl, uw_X7, tyX7_ok, nmX7, by decide, (by obtain ⟨q, h1, _, h3⟩ := fk_X7_15; cases h1; exact h3), rfl, rfl, _, rfl, fun a => ⟨rfl, rfl⟩⟩
theorem ff_X7_18 : FFc RX7 18 7 2 := ⟨_, tyX7, rfl, uw_X7, tyX7_ok, nmX7, by decide, (by obtain ⟨q, h1, _, h3⟩ := fk_X7_18; cases h1; exact h3), rfl, rfl, _, rfl, fun a => ⟨rfl, rfl⟩⟩
theorem ff_X7_21 : FFc RX7 21 7 3 := ⟨_, tyX7, rfl, uw_X7, tyX7_ok, nmX7, by decide, (by obtain ⟨q, h1, _, h3⟩ := fk_X7_21; cases h1; exact h3), rfl, rfl, _, rfl, fun a => ⟨rfl, rfl⟩⟩
theorem ff_X7_24 : FFc RX7 24 7 4 := ⟨_, tyX7, rfl, uw_X7, tyX7_ok, nmX7, by decide, (by obtain ⟨q, h1, _, h3⟩ := fk_X7_24; cases h1; exact h3), rfl, rfl, _, rfl, fun a => ⟨rfl, rfl⟩⟩
theorem ff_X7_27 : FFc RX7 27 7 5 := ⟨_, tyX7, rfl, uw_X7, tyX7_ok, nmX7, by decide, (by obtain ⟨q, h1, _, h3⟩ := fk_X7_27; cases h1; exact h3), rfl, rfl, _, rfl, fun a => ⟨rfl, rfl⟩⟩
theorem ff_X5_9 : FFc RX5 9 5 0 := ⟨_, tyX5, rfl, uw_X5, tyX5_ok, nmX5, by decide, (by obtain ⟨q, h1, _, h3⟩ := fk_X5_9; cases h1; exact h3), rfl, rfl, _, rfl, fun a => ⟨rfl, rfl⟩⟩
theorem ff_X5_15 : FFc RX5 15 5 1 := ⟨_, tyX5, rfl, uw_X5, tyX5_ok, nmX5, by decide, (by obtain ⟨q, h1, _, h3⟩ := fk_X5_15; cases h1; exact h3), rfl, rfl, _, rfl, fun a => ⟨rfl, rfl⟩⟩
theorem ff_X5_18 : FFc RX5 18 5 2 := ⟨_, tyX5, rfl, uw_X5, tyX5_ok, nmX5, by decide, (by obtain ⟨q, h1, _, h3⟩ := fk_X5_18; cases h1; exact h3), rfl, rfl, _, rfl, fun a => ⟨rfl, rfl⟩⟩
theorem ff_X5_21 : FFc RX5 21 5 3 := ⟨_, tyX5, rfl, uw_X5, tyX5_ok, nmX5, by decide, (by obtain ⟨q, h1, _, h3⟩ := fk_X5_21; cases h1; exact h3), rfl, rfl, _, rfl, fun a => ⟨rfl, rfl⟩⟩
theorem ff_X5_27 : FFc RX5 27 5 4 := ⟨_, tyX5, rfl, uw_X5, tyX5_ok, nmX5, by decide, (by obtain ⟨q, h1, _, h3⟩ := fk_X5_27; cases h1; exact h3), rfl, rfl, _, rfl, fun a => ⟨rfl, rfl⟩⟩
theorem ff_X3_9 : FFc RX3 9 3 0 := ⟨_, tyX3, rfl, uw_X3, tyX3_ok, nmX3, by decide, (by obtain ⟨q, h1, _, h3⟩ := fk_X3_9; cases h1; exact h3), rfl, rfl, _, rfl, fun a => ⟨rfl, rfl⟩⟩
theorem ff_X2_9 : FFc RX2 9 2 0 := ⟨_, tyX2, rfl, uw_X2, tyX2_ok, nmX2, by decide, (by obtain ⟨q, h1, _, h3⟩ := fk_X2_9; cases h1; exact h3), rfl, rfl, _, rfl, fun a => ⟨rfl, rfl⟩⟩
theorem ff_X2_15 : FFc RX2 15 2 1 := ⟨_, tyX2, rfl, uw_X2, tyX2_ok, nmX2, by decide, (by obtain ⟨q, h1, _, h3⟩ := fk_X2_15; cases h1; exact h3), rfl, rfl, _, rfl, fun a => ⟨rfl, rfl⟩⟩
theorem ff_X8_9 : FFc RX8 9 8 0 := ⟨_, tyX8, rfl, uw_X8, tyX8_ok, nmX8, by decide, (by obtain ⟨q, h1, _, h3⟩ := fk_X8_9; cases h1; exact h3), rfl, rfl, _, rfl, fun a => ⟨rfl, rfl⟩⟩
theorem ff_X10_11 : FFc RX10 11 10 0 := ⟨_, tyX10, rfl, uw_X10, tyX10_ok, nmX10, by decide, (by obtain ⟨q, h1, _, h3⟩ := fk_X10_11; cases h1; exact h3), rfl, rfl, _, rfl, fun a => ⟨rfl, rfl⟩⟩
theorem ff_X10_18 : FFc RX10 18 10 1 := ⟨_, tyX10, rfl, uw_X10, tyX10_ok, nmX10, by decide, (by obtain ⟨q, h1, _, h3⟩ := fk_X10_18; cases h1; exact h3), rfl, rfl, _, rfl, fun a => ⟨rfl, rfl⟩⟩
theorem ff_X10_26 : FFc RX10 26 10 2 := ⟨_, tyX10, rfl, uw_X10, tyX10_ok, nmX10, by decide, (by obtain ⟨q, h1, _, h3⟩ := fk_X10_26; cases h1; exact h3), rfl, rfl, _, rfl, fun a => ⟨rfl, rfl⟩⟩
theorem ff_X10_35 : FFc RX10 35 10 3 := ⟨_, tyX10, rfl, uw_X10, tyX10_ok, nmX10, by decide, (by obtain ⟨q, h1, _, h3⟩ := fk_X10_35; cases h1; exact h3), rfl, rfl, _, rfl, fun a => ⟨rfl, rfl⟩⟩
theorem ff_X10_39 : FFc RX10 39 10 4 := ⟨_, tyX10, rfl, uw_X10, tyX10_ok, nmX10, by decide, (by obtain ⟨q, h1, _, h3⟩ := fk_X10_39; cases h1; exact h3), rfl, rfl, _, rfl, fun a => ⟨rfl, rfl⟩⟩
theorem ff_X10_45 : FFc RX10 45 10 5 := ⟨_, tyX10, rfl, uw_X10, tyX10_ok, nmX10, by decide, (by obtain ⟨q, h1, _, h3⟩ := fk_X10_45; cases h1; exact h3), rfl, rfl, _, rfl, fun a => ⟨rfl, rfl⟩⟩
theorem ff_X10_52 : FFc RX10 52 10 6 := ⟨_, tyX10, rfl, uw_X10, tyX10_ok, nmX10, by decide, (by obtain ⟨q, h1, _, h3⟩ := fk_X10_52; cases h1; exact h3), rfl, rfl, _, rfl, fun a => ⟨rfl, rfl⟩⟩
theorem ff_X10_59 : FFc RX10 59 10 7 := ⟨_, tyX10, rfl, uw_X10, tyX10_ok, nmX10, by decide, (by obtain ⟨q, h1, _, h3⟩ := fk_X10_59; cases h1; exact h3), rfl, rfl, _, rfl, fun a => ⟨rfl, rfl⟩⟩
theorem ff_X10_66 : FFc RX10 66 10 8 := ⟨_, tyX10, rfl, uw_X10, tyX10_ok, nmX10, by decide, (by obtain ⟨q, h1, _, h3⟩ := fk_X10_66; cases h1; exact h3), rfl, rfl, _, rfl, fun a => ⟨rfl, rfl⟩⟩
theorem ff_X10_73 : FFc RX10 73 10 9 := ⟨_, tyX10, rfl, uw_X10, tyX10_ok, nmX10, by decide, (by obtain ⟨q, h1, _, h3⟩ := fk_X10_73; cases h1; exact h3), rfl, rfl, _, rfl, fun a => ⟨rfl, rfl⟩⟩
theorem ff_X10_80 : FFc RX10 80 10 10 := ⟨_, tyX10, rfl, uw_X10, tyX10_ok, nmX10, by decide, (by obtain ⟨q, h1, _, h3⟩ := fk_X10_80; cases h1; exact h3), rfl, rfl, _, rfl, fun a => ⟨rfl, rfl⟩⟩
theorem ff_X11_7 : FFc RX11 7 11 1 := ⟨_, tyX11, rfl, uw_X11, tyX11_ok, nmX11, by decide, (by obtain ⟨q, h1, _, h3⟩ := fk_X11_7; cases h1; exact h3), rfl, rfl, _, rfl, fun a => ⟨rfl, rfl⟩⟩
theorem ff_X11_13 : FFc RX11 13 11 2 := ⟨_, tyX11, rfl, uw_X11, tyX11_ok, nmX11, by decide, (by obtain ⟨q, h1, _, h3⟩ := fk_X11_13; cases h1; exact h3), rfl, rfl, _, rfl, fun a => ⟨rfl, rfl⟩⟩
theorem ff_X11_16 : FFc RX11 16 11 3 := ⟨_, tyX11, rfl, uw_X11, tyX11_ok, nmX11, by decide, (by obtain ⟨q, h1, _, h3⟩ := fk_X11_16; cases h1; exact h3), rfl, rfl, _, rfl, fun a => ⟨rfl, rfl⟩⟩
theorem ff_X11_19 : FFc RX11 19 11 4 := ⟨_, tyX11, rfl, uw_X11, tyX11_ok, nmX11, by decide, (by obtain ⟨q, h1, _, h3⟩ := fk_X11_19; cases h1; exact h3), rfl, rfl, _, rfl, fun a => ⟨rfl, rfl⟩⟩
theorem ff_X11_22 : FFc RX11 22 11 5 := ⟨_, tyX11, rfl, uw_X11, tyX11_ok, nmX11, by decide, (by obtain ⟨q, h1, _, h3⟩ := fk_X11_22; cases h1; exact h3), rfl, rfl, _, rfl, fun a => ⟨rfl, rfl⟩⟩
theorem ff_X11_31 : FFc RX11 31 11 12 := ⟨_, tyX11, rfl, uw_X11, tyX11_ok, nmX11, by decide, (by obtain ⟨q, h1, _, h3⟩ := fk_X11_31; cases h1; exact h3), rfl, rfl, _, rfl, fun a => ⟨rfl, rfl⟩⟩
theorem ff_X11_34 : FFc RX11 34 11 13 := ⟨_, tyX11, rfl, uw_X11, tyX11_ok, nmX11, by decide, (by obtain ⟨q, h1, _, h3⟩ := fk_X11_34; cases h1; exact h3), rfl, rfl, _, rfl, fun a => ⟨rfl, rfl⟩⟩
theorem ff_X11_37 : FFc RX11 37 11 14 := ⟨_, tyX11, rfl, uw_X11, tyX11_ok, nmX11, by decide, (by obtain ⟨q, h1, _, h3⟩ := fk_X11_37; cases h1; exact h3), rfl, rfl, _, rfl, fun a => ⟨rfl, rfl⟩⟩
theorem ff_X11_41 : FFc RX11 41 11 15 := ⟨_, tyX11, rfl, uw_X11, tyX11_ok, nmX11, by decide, (by obtain ⟨q, h1, _, h3⟩ := fk_X11_41; cases h1; exact h3), rfl, rfl, _, rfl, fun a => ⟨rfl, rfl⟩⟩
theorem ff_X11_44 : FFc RX11 44 11 17 := ⟨_, tyX11, rfl, uw_X11, tyX11_ok, nmX11, by decide, (by obtain ⟨q, h1, _, h3⟩ := fk_X11_44; cases h1; exact h3), rfl, rfl, _, rfl, fun a => ⟨rfl, rfl⟩⟩
theorem ff_X11_51 : FFc RX11 51 11 26 := ⟨_, tyX11, rfl, uw_X11, tyX11_ok, nmX11, by decide, (by obtain ⟨q, h1, _, h3⟩ := fk_X11_51; cases h1; exact h3), rfl, rfl, _, rfl, fun a => ⟨rfl, rfl⟩⟩
theorem ff_X11_54 : FFc RX11 54 11 27 := ⟨_, tyX11, rfl, uw_X11, tyX11_ok, nmX11, by decide, (by obtain ⟨q, h1, _, h3⟩ := fk_X11_54; cases h1; exact h3), rfl, rfl, _, rfl, fun a => ⟨rfl, rfl⟩⟩
theorem ff_X11_57 : FFc RX11 57 11 28 := ⟨_, tyX11, rfl, uw_X11, tyX11_ok, nmX11, by decide, (by obtain ⟨q, h1, _, h3⟩ := fk_X11_57; cases h1; exact h3), rfl, rfl, _, rfl, fun a => ⟨rfl, rfl⟩⟩
theorem ff_X11_60 : FFc RX11 60 11 33 := ⟨_, tyX11, rfl, uw_X11, tyX11_ok, nmX11, by decide, (by obtain ⟨q, h1, _, h3⟩ := fk_X11_60; cases h1; exact h3), rfl, rfl, _, rfl, fun a => ⟨rfl, rfl⟩⟩
theorem ff_X11_63 : FFc RX11 63 11 34 := ⟨_, tyX11, rfl, uw_X11, tyX11_ok, nmX11, by decide, (by obtain ⟨q, h1, _, h3⟩ := fk_X11_63; cases h1; exact h3), rfl, rfl, _, rfl, fun a => ⟨rfl, rfl⟩⟩
theorem ff_X11_66 : FFc RX11 66 11 35 := ⟨_, tyX11, rfl, uw_X11, tyX11_ok, nmX11, by decide, (by obtain ⟨q, h1, _, h3⟩ := fk_X11_66; cases h1; exact h3), rfl, rfl, _, rfl, fun a => ⟨rfl, rfl⟩⟩
theorem ff_X11_69 : FFc RX11 69 11 36 := ⟨_, tyX11, rfl, uw_X11, tyX11_ok, nmX11, by decide, (by obtain ⟨q, h1, _, h3⟩ := fk_X11_69; cases h1; exact h3), rfl, rfl, _, rfl, fun a => ⟨rfl, rfl⟩⟩
theorem ff_X11_72 : FFc RX11 72 11 37 := ⟨_, tyX11, rfl, uw_X11, tyX11_ok, nmX11, by decide, (by obtain ⟨q, h1, _, h3⟩ := fk_X11_72; cases h1; exact h3), rfl, rfl, _, rfl, fun a => ⟨rfl, rfl⟩⟩
set_option maxRecDepth 20000 in
theorem yc_X0 {l : Launch} {D : va_G} {C : Nat → ClassId} {d K N : Nat} {Q : Yq} {h0 : Nat} (hK : 1 ≤ K) (hN : 100 ≤ N) (h : ∀ q1 : Nat, Q 12 [some (.ref h0)] [] [(h0, .inr (0, [.ref q1, .int 0, .int 0, .int 0])), (q1, .inl (C 1, (100, .inr (.inl (fun _ => 0)))))] 1 100) : Y l D C M_X0_init (d + 1) K N 0 [some (.ref h0)] [] [(h0, .inr (0, dfl 0))] 0 0 Q := by
  refine y_world (w' := [(h0, .inr (0, [.null, .int 0, .int 0, .int 0]))]) rfl ?_
  refine y_aload_n (pc := 0) dX0_init_0 rfl ?_
  refine y_objInit (pc := 1) dX0_init_1 oi_X0_3 oi_i oi_c rfl ?_
  refine y_aload_n (pc := 4) dX0_init_4 rfl ?_
  refine y_bipush (pc := 5) (v := 100) dX0_init_5 (by decide) ?_
  refine y_newa (pc := 7) (t := 1) (Z := 100) (a0 := (100, .inr (.inl (fun _ => 0)))) dX0_init_7 ac_long rfl rfl (fun _ => rfl) (by decide) (by decide) (by decide) (by show 1 ≤ K; omega) (by show 100 ≤ N; omega) (fun q1 => ?_)
  refine y_world (w' := [(h0, .inr (0, [.null, .int 0, .int 0, .int 0])), (q1, .inl (C 1, (100, .inr (.inl (fun _ => 0)))))]) rfl ?_
  refine y_putF (pc := 9) (q0 := 0) dX0_init_9 ff_X0_9 rfl rfl (Nat.le_of_ble_eq_true rfl) ?_
  refine y_world (w' := [(h0, .inr (0, [.ref q1, .int 0, .int 0, .int 0])), (q1, .inl (C 1, (100, .inr (.inl (fun _ => 0)))))]) rfl ?_
  exact y_stop (h q1)
set_option maxRecDepth 20000 in
theorem yc_X6 {l : Launch} {D : va_G} {C : Nat → ClassId} {d K N : Nat} {Q : Yq} {h0 : Nat} (hK : 0 ≤ K) (hN : 0 ≤ N) (h : ∀ _ : Unit, Q 4 [some (.ref h0)] [] [(h0, .inr (6, [.int 0, .int 0, .int 0, .int 0, .int 0, .int 0, .int 0, .int 0]))] 0 0) : Y l D C M_X6_init (d + 1) K N 0 [some (.ref h0)] [] [(h0, .inr (6, dfl 6))] 0 0 Q := by
  refine y_world (w' := [(h0, .inr (6, [.int 0, .int 0, .int 0, .int 0, .int 0, .int 0, .int 0, .int 0]))]) rfl ?_
  refine y_aload_n (pc := 0) dX6_init_0 rfl ?_
  refine y_objInit (pc := 1) dX6_init_1 oi_X6_3 oi_i oi_c rfl ?_
  exact y_stop (h ())
set_option maxRecDepth 20000 in
theorem yc_X3 {l : Launch} {D : va_G} {C : Nat → ClassId} {d K N : Nat} {Q : Yq} {h0 : Nat} (hK : 1 ≤ K) (hN : 40 ≤ N) (h : ∀ q1 : Nat, Q 12 [some (.ref h0)] [] [(h0, .inr (3, [.ref q1, .int 0, .int 0])), (q1, .inl (C 0, (40, .inl (fun _ => 0))))] 1 40) : Y l D C M_X3_init (d + 1) K N 0 [some (.ref h0)] [] [(h0, .inr (3, dfl 3))] 0 0 Q := by
  refine y_world (w' := [(h0, .inr (3, [.null, .int 0, .int 0]))]) rfl ?_
  refine y_aload_n (pc := 0) dX3_init_0 rfl ?_
  refine y_objInit (pc := 1) dX3_init_1 oi_X3_3 oi_i oi_c rfl ?_
  refine y_aload_n (pc := 4) dX3_init_4 rfl ?_
  refine y_bipush (pc := 5) (v := 40) dX3_init_5 (by decide) ?_
  refine y_newa (pc := 7) (t := 0) (Z := 40) (a0 := (40, .inl (fun _ => 0))) dX3_init_7 ac_int rfl rfl (fun _ => rfl) (by decide) (by decide) (by decide) (by show 1 ≤ K; omega) (by show 40 ≤ N; omega) (fun q1 => ?_)
  refine y_world (w' := [(h0, .inr (3, [.null, .int 0, .int 0])), (q1, .inl (C 0, (40, .inl (fun _ => 0))))]) rfl ?_
  refine y_putF (pc := 9) (q0 := 0) dX3_init_9 ff_X3_9 rfl rfl (Nat.le_of_ble_eq_true rfl) ?_
  refine y_world (w' := [(h0, .inr (3, [.ref q1, .int 0, .int 0])), (q1, .inl (C 0, (40, .inl (fun _ => 0))))]) rfl ?_
  exact y_stop (h q1)
set_option maxRecDepth 20000 in
theorem yc_X2 {l : Launch} {D : va_G} {C : Nat → ClassId} {d K N : Nat} {Q : Yq} {h0 : Nat} (hK : 2 ≤ K) (hN : 80 ≤ N) (h : ∀ q1 q2 : Nat, Q 20 [some (.ref h0)] [] [(h0, .inr (2, [.ref q1, .ref q2, .int 0, .int 0, .long 0, .long 0, .long 0])), (q1, .inl (C 1, (40, .inr (.inl (fun _ => 0))))), (q2, .inl (C 1, (40, .inr (.inl (fun _ => 0)))))] 2 80) : Y l D C M_X2_init (d + 1) K N 0 [some (.ref h0)] [] [(h0, .inr (2, dfl 2))] 0 0 Q := by
  refine y_world (w' := [(h0, .inr (2, [.null, .null, .int 0, .int 0, .long 0, .long 0, .long 0]))]) rfl ?_
  refine y_aload_n (pc := 0) dX2_init_0 rfl ?_
  refine y_objInit (pc := 1) dX2_init_1 oi_X2_3 oi_i oi_c rfl ?_
  refine y_aload_n (pc := 4) dX2_init_4 rfl ?_
  refine y_bipush (pc := 5) (v := 40) dX2_init_5 (by decide) ?_
  refine y_newa (pc := 7) (t := 1) (Z := 40) (a0 := (40, .inr (.inl (fun _ => 0)))) dX2_init_7 ac_long rfl rfl (fun _ => rfl) (by decide) (by decide) (by decide) (by show 1 ≤ K; omega) (by show 40 ≤ N; omega) (fun q1 => ?_)
  refine y_world (w' := [(h0, .inr (2, [.null, .null, .int 0, .int 0, .long 0, .long 0, .long 0])), (q1, .inl (C 1, (40, .inr (.inl (fun _ => 0)))))]) rfl ?_
  refine y_putF (pc := 9) (q0 := 0) dX2_init_9 ff_X2_9 rfl rfl (Nat.le_of_ble_eq_true rfl) ?_
  refine y_world (w' := [(h0, .inr (2, [.ref q1, .null, .int 0, .int 0, .long 0, .long 0, .long 0])), (q1, .inl (C 1, (40, .inr (.inl (fun _ => 0)))))]) rfl ?_
  refine y_aload_n (pc := 12) dX2_init_12 rfl ?_
  refine y_bipush (pc := 13) (v := 40) dX2_init_13 (by decide) ?_
  refine y_newa (pc := 15) (t := 1) (Z := 40) (a0 := (40, .inr (.inl (fun _ => 0)))) dX2_init_15 ac_long rfl rfl (fun _ => rfl) (by decide) (by decide) (by decide) (by show 2 ≤ K; omega) (by show 80 ≤ N; omega) (fun q2 => ?_)
  refine y_world (w' := [(h0, .inr (2, [.ref q1, .null, .int 0, .int 0, .long 0, .long 0, .long 0])), (q1, .inl (C 1, (40, .inr (.inl (fun _ => 0))))), (q2, .inl (C 1, (40, .inr (.inl (fun _ => 0)))))]) rfl ?_
  refine y_putF (pc := 17) (q0 := 0) dX2_init_17 ff_X2_15 rfl rfl (Nat.le_of_ble_eq_true rfl) ?_
  refine y_world (w' := [(h0, .inr (2, [.ref q1, .ref q2, .int 0, .int 0, .long 0, .long 0, .long 0])), (q1, .inl (C 1, (40, .inr (.inl (fun _ => 0))))), (q2, .inl (C 1, (40, .inr (.inl (fun _ => 0)))))]) rfl ?_
  exact y_stop (h q1 q2)
set_option maxRecDepth 20000 in
theorem yc_X4 {l : Launch} {D : va_G} {C : Nat → ClassId} {d K N : Nat} {Q : Yq} {h0 : Nat} (hK : 0 ≤ K) (hN : 0 ≤ N) (h : ∀ _ : Unit, Q 19 [some (.ref h0)] [] [(h0, .inr (4, [.int (0), .int (1), .int (0)]))] 0 0) : Y l D C M_X4_init (d + 1) K N 0 [some (.ref h0)] [] [(h0, .inr (4, dfl 4))] 0 0 Q := by
  refine y_world (w' := [(h0, .inr (4, [.int 0, .int 0, .int 0]))]) rfl ?_
  refine y_aload_n (pc := 0) dX4_init_0 rfl ?_
  refine y_objInit (pc := 1) dX4_init_1 oi_X4_3 oi_i oi_c rfl ?_
  refine y_aload_n (pc := 4) dX4_init_4 rfl ?_
  refine y_iconst (pc := 5) (v := 0) dX4_init_5 (by decide) ?_
  refine y_put (pc := 6) (q0 := 0) dX4_init_6 fk_X4_9 (by decide) (Or.inl ⟨rfl, _, rfl⟩) rfl (Nat.le_of_ble_eq_true rfl) ?_
  refine y_world (w' := [(h0, .inr (4, [.int (0), .int 0, .int 0]))]) rfl ?_
  refine y_aload_n (pc := 9) dX4_init_9 rfl ?_
  refine y_iconst (pc := 10) (v := 1) dX4_init_10 (by decide) ?_
  refine y_put (pc := 11) (q0 := 0) dX4_init_11 fk_X4_15 (by decide) (Or.inl ⟨rfl, _, rfl⟩) rfl (Nat.le_of_ble_eq_true rfl) ?_
  refine y_world (w' := [(h0, .inr (4, [.int (0), .int (1), .int 0]))]) rfl ?_
  refine y_aload_n (pc := 14) dX4_init_14 rfl ?_
  refine y_iconst (pc := 15) (v := 0) dX4_init_15 (by decide) ?_
  refine y_put (pc := 16) (q0 := 0) dX4_init_16 fk_X4_18 (by decide) (Or.inl ⟨rfl, _, rfl⟩) rfl (Nat.le_of_ble_eq_true rfl) ?_
  refine y_world (w' := [(h0, .inr (4, [.int (0), .int (1), .int (0)]))]) rfl ?_
  exact y_stop (h ())
set_option maxRecDepth 20000 in
theorem yc_X7 {l : Launch} {D : va_G} {C : Nat → ClassId} {d K N : Nat} {Q : Yq} {h0 : Nat} (hK : 6 ≤ K) (hN : 240 ≤ N) (h : ∀ q1 q2 q3 q4 q5 q6 : Nat, Q 52 [some (.ref h0)] [] [(h0, .inr (7, [.ref q1, .ref q2, .ref q3, .ref q4, .ref q5, .ref q6, .int 0, .int 0])), (q1, .inl (C 0, (40, .inl (fun _ => 0)))), (q2, .inl (C 0, (40, .inl (fun _ => 0)))), (q3, .inl (C 0, (40, .inl (fun _ => 0)))), (q4, .inl (C 0, (40, .inl (fun _ => 0)))), (q5, .inl (C 0, (40, .inl (fun _ => 0)))), (q6, .inl (C 0, (40, .inl (fun _ => 0))))] 6 240) : Y l D C M_X7_init (d + 1) K N 0 [some (.ref h0)] [] [(h0, .inr (7, dfl 7))] 0 0 Q := by
  refine y_world (w' := [(h0, .inr (7, [.null, .null, .null, .null, .null, .null, .int 0, .int 0]))]) rfl ?_
  refine y_aload_n (pc := 0) dX7_init_0 rfl ?_
  refine y_objInit (pc := 1) dX7_init_1 oi_X7_3 oi_i oi_c rfl ?_
  refine y_aload_n (pc := 4) dX7_init_4 rfl ?_
  refine y_bipush (pc := 5) (v := 40) dX7_init_5 (by decide) ?_
  refine y_newa (pc := 7) (t := 0) (Z := 40) (a0 := (40, .inl (fun _ => 0))) dX7_init_7 ac_int rfl rfl (fun _ => rfl) (by decide) (by decide) (by decide) (by show 1 ≤ K; omega) (by show 40 ≤ N; omega) (fun q1 => ?_)
  refine y_world (w' := [(h0, .inr (7, [.null, .null, .null, .null, .null, .null, .int 0, .int 0])), (q1, .inl (C 0, (40, .inl (fun _ => 0))))]) rfl ?_
  refine y_putF (pc := 9) (q0 := 0) dX7_init_9 ff_X7_9 rfl rfl (Nat.le_of_ble_eq_true rfl) ?_
  refine y_world (w' := [(h0, .inr (7, [.ref q1, .null, .null, .null, .null, .null, .int 0, .int 0])), (q1, .inl (C 0, (40, .inl (fun _ => 0))))]) rfl ?_
  refine y_aload_n (pc := 12) dX7_init_12 rfl ?_
  refine y_bipush (pc := 13) (v := 40) dX7_init_13 (by decide) ?_
  refine y_newa (pc := 15) (t := 0) (Z := 40) (a0 := (40, .inl (fun _ => 0))) dX7_init_15 ac_int rfl rfl (fun _ => rfl) (by decide) (by decide) (by decide) (by show 2 ≤ K; omega) (by show 80 ≤ N; omega) (fun q2 => ?_)
  refine y_world (w' := [(h0, .inr (7, [.ref q1, .null, .null, .null, .null, .null, .int 0, .int 0])), (q1, .inl (C 0, (40, .inl (fun _ => 0)))), (q2, .inl (C 0, (40, .inl (fun _ => 0))))]) rfl ?_
  refine y_putF (pc := 17) (q0 := 0) dX7_init_17 ff_X7_15 rfl rfl (Nat.le_of_ble_eq_true rfl) ?_
  refine y_world (w' := [(h0, .inr (7, [.ref q1, .ref q2, .null, .null, .null, .null, .int 0, .int 0])), (q1, .inl (C 0, (40, .inl (fun _ => 0)))), (q2, .inl (C 0, (40, .inl (fun _ => 0))))]) rfl ?_
  refine y_aload_n (pc := 20) dX7_init_20 rfl ?_
  refine y_bipush (pc := 21) (v := 40) dX7_init_21 (by decide) ?_
  refine y_newa (pc := 23) (t := 0) (Z := 40) (a0 := (40, .inl (fun _ => 0))) dX7_init_23 ac_int rfl rfl (fun _ => rfl) (by decide) (by decide) (by decide) (by show 3 ≤ K; omega) (by show 120 ≤ N; omega) (fun q3 => ?_)
  refine y_world (w' := [(h0, .inr (7, [.ref q1, .ref q2, .null, .null, .null, .null, .int 0, .int 0])), (q1, .inl (C 0, (40, .inl (fun _ => 0)))), (q2, .inl (C 0, (40, .inl (fun _ => 0)))), (q3, .inl (C 0, (40, .inl (fun _ => 0))))]) rfl ?_
  refine y_putF (pc := 25) (q0 := 0) dX7_init_25 ff_X7_18 rfl rfl (Nat.le_of_ble_eq_true rfl) ?_
  refine y_world (w' := [(h0, .inr (7, [.ref q1, .ref q2, .ref q3, .null, .null, .null, .int 0, .int 0])), (q1, .inl (C 0, (40, .inl (fun _ => 0)))), (q2, .inl (C 0, (40, .inl (fun _ => 0)))), (q3, .inl (C 0, (40, .inl (fun _ => 0))))]) rfl ?_
  refine y_aload_n (pc := 28) dX7_init_28 rfl ?_
  refine y_bipush (pc := 29) (v := 40) dX7_init_29 (by decide) ?_
  refine y_newa (pc := 31) (t := 0) (Z := 40) (a0 := (40, .inl (fun _ => 0))) dX7_init_31 ac_int rfl rfl (fun _ => rfl) (by decide) (by decide) (by decide) (by show 4 ≤ K; omega) (by show 160 ≤ N; omega) (fun q4 => ?_)
  refine y_world (w' := [(h0, .inr (7, [.ref q1, .ref q2, .ref q3, .null, .null, .null, .int 0, .int 0])), (q1, .inl (C 0, (40, .inl (fun _ => 0)))), (q2, .inl (C 0, (40, .inl (fun _ => 0)))), (q3, .inl (C 0, (40, .inl (fun _ => 0)))), (q4, .inl (C 0, (40, .inl (fun _ => 0))))]) rfl ?_
  refine y_putF (pc := 33) (q0 := 0) dX7_init_33 ff_X7_21 rfl rfl (Nat.le_of_ble_eq_true rfl) ?_
  refine y_world (w' := [(h0, .inr (7, [.ref q1, .ref q2, .ref q3, .ref q4, .null, .null, .int 0, .int 0])), (q1, .inl (C 0, (40, .inl (fun _ => 0)))), (q2, .inl (C 0, (40, .inl (fun _ => 0)))), (q3, .inl (C 0, (40, .inl (fun _ => 0)))), (q4, .inl (C 0, (40, .inl (fun _ => 0))))]) rfl ?_
  refine y_aload_n (pc := 36) dX7_init_36 rfl ?_
  refine y_bipush (pc := 37) (v := 40) dX7_init_37 (by decide) ?_
  refine y_newa (pc := 39) (t := 0) (Z := 40) (a0 := (40, .inl (fun _ => 0))) dX7_init_39 ac_int rfl rfl (fun _ => rfl) (by decide) (by decide) (by decide) (by show 5 ≤ K; omega) (by show 200 ≤ N; omega) (fun q5 => ?_)
  refine y_world (w' := [(h0, .inr (7, [.ref q1, .ref q2, .ref q3, .ref q4, .null, .null, .int 0, .int 0])), (q1, .inl (C 0, (40, .inl (fun _ => 0)))), (q2, .inl (C 0, (40, .inl (fun _ => 0)))), (q3, .inl (C 0, (40, .inl (fun _ => 0)))), (q4, .inl (C 0, (40, .inl (fun _ => 0)))), (q5, .inl (C 0, (40, .inl (fun _ => 0))))]) rfl ?_
  refine y_putF (pc := 41) (q0 := 0) dX7_init_41 ff_X7_24 rfl rfl (Nat.le_of_ble_eq_true rfl) ?_
  refine y_world (w' := [(h0, .inr (7, [.ref q1, .ref q2, .ref q3, .ref q4, .ref q5, .null, .int 0, .int 0])), (q1, .inl (C 0, (40, .inl (fun _ => 0)))), (q2, .inl (C 0, (40, .inl (fun _ => 0)))), (q3, .inl (C 0, (40, .inl (fun _ => 0)))), (q4, .inl (C 0, (40, .inl (fun _ => 0)))), (q5, .inl (C 0, (40, .inl (fun _ => 0))))]) rfl ?_
  refine y_aload_n (pc := 44) dX7_init_44 rfl ?_
  refine y_bipush (pc := 45) (v := 40) dX7_init_45 (by decide) ?_
  refine y_newa (pc := 47) (t := 0) (Z := 40) (a0 := (40, .inl (fun _ => 0))) dX7_init_47 ac_int rfl rfl (fun _ => rfl) (by decide) (by decide) (by decide) (by show 6 ≤ K; omega) (by show 240 ≤ N; omega) (fun q6 => ?_)
  refine y_world (w' := [(h0, .inr (7, [.ref q1, .ref q2, .ref q3, .ref q4, .ref q5, .null, .int 0, .int 0])), (q1, .inl (C 0, (40, .inl (fun _ => 0)))), (q2, .inl (C 0, (40, .inl (fun _ => 0)))), (q3, .inl (C 0, (40, .inl (fun _ => 0)))), (q4, .inl (C 0, (40, .inl (fun _ => 0)))), (q5, .inl (C 0, (40, .inl (fun _ => 0)))), (q6, .inl (C 0, (40, .inl (fun _ => 0))))]) rfl ?_
  refine y_putF (pc := 49) (q0 := 0) dX7_init_49 ff_X7_27 rfl rfl (Nat.le_of_ble_eq_true rfl) ?_
  refine y_world (w' := [(h0, .inr (7, [.ref q1, .ref q2, .ref q3, .ref q4, .ref q5, .ref q6, .int 0, .int 0])), (q1, .inl (C 0, (40, .inl (fun _ => 0)))), (q2, .inl (C 0, (40, .inl (fun _ => 0)))), (q3, .inl (C 0, (40, .inl (fun _ => 0)))), (q4, .inl (C 0, (40, .inl (fun _ => 0)))), (q5, .inl (C 0, (40, .inl (fun _ => 0)))), (q6, .inl (C 0, (40, .inl (fun _ => 0))))]) rfl ?_
  exact y_stop (h q1 q2 q3 q4 q5 q6)
set_option maxRecDepth 20000 in
theorem yc_X8 {l : Launch} {D : va_G} {C : Nat → ClassId} {d K N : Nat} {Q : Yq} {h0 : Nat} (hK : 1 ≤ K) (hN : 40 ≤ N) (h : ∀ q1 : Nat, Q 12 [some (.ref h0)] [] [(h0, .inr (8, [.ref q1, .int 0, .long 0, .long 0])), (q1, .inl (C 0, (40, .inl (fun _ => 0))))] 1 40) : Y l D C M_X8_init (d + 1) K N 0 [some (.ref h0)] [] [(h0, .inr (8, dfl 8))] 0 0 Q := by
  refine y_world (w' := [(h0, .inr (8, [.null, .int 0, .long 0, .long 0]))]) rfl ?_
  refine y_aload_n (pc := 0) dX8_init_0 rfl ?_
  refine y_objInit (pc := 1) dX8_init_1 oi_X8_3 oi_i oi_c rfl ?_
  refine y_aload_n (pc := 4) dX8_init_4 rfl ?_
  refine y_bipush (pc := 5) (v := 40) dX8_init_5 (by decide) ?_
  refine y_newa (pc := 7) (t := 0) (Z := 40) (a0 := (40, .inl (fun _ => 0))) dX8_init_7 ac_int rfl rfl (fun _ => rfl) (by decide) (by decide) (by decide) (by show 1 ≤ K; omega) (by show 40 ≤ N; omega) (fun q1 => ?_)
  refine y_world (w' := [(h0, .inr (8, [.null, .int 0, .long 0, .long 0])), (q1, .inl (C 0, (40, .inl (fun _ => 0))))]) rfl ?_
  refine y_putF (pc := 9) (q0 := 0) dX8_init_9 ff_X8_9 rfl rfl (Nat.le_of_ble_eq_true rfl) ?_
  refine y_world (w' := [(h0, .inr (8, [.ref q1, .int 0, .long 0, .long 0])), (q1, .inl (C 0, (40, .inl (fun _ => 0))))]) rfl ?_
  exact y_stop (h q1)
set_option maxRecDepth 20000 in
theorem yc_X9a {l : Launch} {D : va_G} {C : Nat → ClassId} {d K N : Nat} {Q : Yq} {h0 : Nat} (hK : 1 ≤ K) (hN : 16 ≤ N) (h : ∀ q1 : Nat, Q 19 [some (.ref h0), some (.int 16)] [] [(h0, .inr (9, [.ref q1, .int 0])), (q1, .inl (C 0, (16, .inl (fun _ => 0))))] 1 16) : Y l D C M_X9_init (d + 1) K N 0 [some (.ref h0), some (.int 16)] [] [(h0, .inr (9, dfl 9))] 0 0 Q := by
  refine y_world (w' := [(h0, .inr (9, [.null, .int 0]))]) rfl ?_
  refine y_aload_n (pc := 0) dX9_init_0 rfl ?_
  refine y_objInit (pc := 1) dX9_init_1 oi_X9_1 oi_i oi_c rfl ?_
  refine y_aload_n (pc := 4) dX9_init_4 rfl ?_
  refine y_iload_n (pc := 5) dX9_init_5 rfl ?_
  refine y_if_le (pc := 6) (tgt := 13) dX9_init_6 rfl (fun hc => absurd hc (by decide)) (fun _ => ?_)
  refine y_iload_n (pc := 9) dX9_init_9 rfl ?_
  refine y_goto (pc := 10) (tgt := 14) dX9_init_10 rfl ?_
  refine y_newa (pc := 14) (t := 0) (Z := 16) (a0 := (16, .inl (fun _ => 0))) dX9_init_14 ac_int rfl rfl (fun _ => rfl) (by decide) (by decide) (by decide) (by show 1 ≤ K; omega) (by show 16 ≤ N; omega) (fun q1 => ?_)
  refine y_world (w' := [(h0, .inr (9, [.null, .int 0])), (q1, .inl (C 0, (16, .inl (fun _ => 0))))]) rfl ?_
  refine y_putF (pc := 16) (q0 := 0) dX9_init_16 ff_X9_7 rfl rfl (Nat.le_of_ble_eq_true rfl) ?_
  refine y_world (w' := [(h0, .inr (9, [.ref q1, .int 0])), (q1, .inl (C 0, (16, .inl (fun _ => 0))))]) rfl ?_
  exact y_stop (h q1)
set_option maxRecDepth 20000 in
theorem yc_X9b {l : Launch} {D : va_G} {C : Nat → ClassId} {d K N : Nat} {Q : Yq} {h0 : Nat} (hK : 1 ≤ K) (hN : 0 ≤ N) (h : ∀ q1 : Nat, Q 19 [some (.ref h0), some (.int 0)] [] [(h0, .inr (9, [.ref q1, .int 0])), (q1, .inl (C 0, (0, .inl (fun _ => 0))))] 1 0) : Y l D C M_X9_init (d + 1) K N 0 [some (.ref h0), some (.int 0)] [] [(h0, .inr (9, dfl 9))] 0 0 Q := by
  refine y_world (w' := [(h0, .inr (9, [.null, .int 0]))]) rfl ?_
  refine y_aload_n (pc := 0) dX9_init_0 rfl ?_
  refine y_objInit (pc := 1) dX9_init_1 oi_X9_1 oi_i oi_c rfl ?_
  refine y_aload_n (pc := 4) dX9_init_4 rfl ?_
  refine y_iload_n (pc := 5) dX9_init_5 rfl ?_
  refine y_if_le (pc := 6) (tgt := 13) dX9_init_6 rfl (fun _ => ?_) (fun hc => absurd hc (by decide))
  refine y_iconst (pc := 13) (v := 0) dX9_init_13 (by decide) ?_
  refine y_newa (pc := 14) (t := 0) (Z := 0) (a0 := (0, .inl (fun _ => 0))) dX9_init_14 ac_int rfl rfl (fun _ => rfl) (by decide) (by decide) (by decide) (by show 1 ≤ K; omega) (by show 0 ≤ N; omega) (fun q1 => ?_)
  refine y_world (w' := [(h0, .inr (9, [.null, .int 0])), (q1, .inl (C 0, (0, .inl (fun _ => 0))))]) rfl ?_
  refine y_putF (pc := 16) (q0 := 0) dX9_init_16 ff_X9_7 rfl rfl (Nat.le_of_ble_eq_true rfl) ?_
  refine y_world (w' := [(h0, .inr (9, [.ref q1, .int 0])), (q1, .inl (C 0, (0, .inl (fun _ => 0))))]) rfl ?_
  exact y_stop (h q1)
set_option maxRecDepth 20000 in
theorem yc_X1 {l : Launch} {D : va_G} {C : Nat → ClassId} {d K N : Nat} {Q : Yq} {h0 : Nat} (hK : 1 ≤ K) (hN : 8 ≤ N) (h : ∀ q1 : Nat, Q 15 [some (.ref h0)] [] [(h0, .inr (1, [.ref q1, .int 0, .int 0, .int 0])), (q1, .inr (6, [.int 0, .int 0, .int 0, .int 0, .int 0, .int 0, .int 0, .int 0]))] 1 8) : Y l D C M_X1_init (d + 2) K N 0 [some (.ref h0)] [] [(h0, .inr (1, dfl 1))] 0 0 Q := by
  refine y_world (w' := [(h0, .inr (1, [.null, .int 0, .int 0, .int 0]))]) rfl ?_
  refine y_aload_n (pc := 0) dX1_init_0 rfl ?_
  refine y_objInit (pc := 1) dX1_init_1 oi_X1_1 oi_i oi_c rfl ?_
  refine y_aload_n (pc := 4) dX1_init_4 rfl ?_
  refine y_new (pc := 5) dX1_init_5 nw_X1_7 (by show 1 ≤ K; omega) (by show 8 ≤ N; omega) (fun q1 => ?_)
  refine y_dup (pc := 8) dX1_init_8 rfl ?_
  refine y_init (pc := 9) (K' := 0) (N' := 0) [] dX1_init_9 ci_X1_9 rfl (Nat.le_of_ble_eq_true rfl) rfl (by show 1 ≤ K; omega) (by show 8 ≤ N; omega) ?_
  refine yc_X6 (by decide) (by decide) (fun (_ : Unit) => ⟨dX6_init_4, rfl, by decide, by decide, ?_⟩)
  refine y_world (w' := [(h0, .inr (1, [.null, .int 0, .int 0, .int 0])), (q1, .inr (6, [.int 0, .int 0, .int 0, .int 0, .int 0, .int 0, .int 0, .int 0]))]) rfl ?_
  refine y_putF (pc := 12) (q0 := 0) dX1_init_12 ff_X1_10 rfl rfl (Nat.le_of_ble_eq_true rfl) ?_
  refine y_world (w' := [(h0, .inr (1, [.ref q1, .int 0, .int 0, .int 0])), (q1, .inr (6, [.int 0, .int 0, .int 0, .int 0, .int 0, .int 0, .int 0, .int 0]))]) rfl ?_
  exact y_stop (h q1)
set_option maxRecDepth 20000 in
theorem yc_X5 {l : Launch} {D : va_G} {C : Nat → ClassId} {d K N : Nat} {Q : Yq} {h0 : Nat} (hK : 5 ≤ K) (hN : 3123 ≤ N) (h : ∀ q1 q2 q3 q4 q5 : Nat, Q 51 [some (.ref h0)] [] [(h0, .inr (5, [.ref q1, .ref q2, .ref q3, .ref q4, .ref q5, .int 0, .int 0, .int 0, .int 0, .int 0, .int 0])), (q1, .inl (C 0, (780, .inl (fun _ => 0)))), (q2, .inl (C 0, (780, .inl (fun _ => 0)))), (q3, .inl (C 0, (780, .inl (fun _ => 0)))), (q4, .inl (C 0, (780, .inl (fun _ => 0)))), (q5, .inr (4, [.int (0), .int (1), .int (0)]))] 5 3123) : Y l D C M_X5_init (d + 2) K N 0 [some (.ref h0)] [] [(h0, .inr (5, dfl 5))] 0 0 Q := by
  refine y_world (w' := [(h0, .inr (5, [.null, .null, .null, .null, .null, .int 0, .int 0, .int 0, .int 0, .int 0, .int 0]))]) rfl ?_
  refine y_aload_n (pc := 0) dX5_init_0 rfl ?_
  refine y_objInit (pc := 1) dX5_init_1 oi_X5_3 oi_i oi_c rfl ?_
  refine y_aload_n (pc := 4) dX5_init_4 rfl ?_
  refine y_sipush (pc := 5) (v := 780) dX5_init_5 (by decide) ?_
  refine y_newa (pc := 8) (t := 0) (Z := 780) (a0 := (780, .inl (fun _ => 0))) dX5_init_8 ac_int rfl rfl (fun _ => rfl) (by decide) (by decide) (by decide) (by show 1 ≤ K; omega) (by show 780 ≤ N; omega) (fun q1 => ?_)
  refine y_world (w' := [(h0, .inr (5, [.null, .null, .null, .null, .null, .int 0, .int 0, .int 0, .int 0, .int 0, .int 0])), (q1, .inl (C 0, (780, .inl (fun _ => 0))))]) rfl ?_
  refine y_putF (pc := 10) (q0 := 0) dX5_init_10 ff_X5_9 rfl rfl (Nat.le_of_ble_eq_true rfl) ?_
  refine y_world (w' := [(h0, .inr (5, [.ref q1, .null, .null, .null, .null, .int 0, .int 0, .int 0, .int 0, .int 0, .int 0])), (q1, .inl (C 0, (780, .inl (fun _ => 0))))]) rfl ?_
  refine y_aload_n (pc := 13) dX5_init_13 rfl ?_
  refine y_sipush (pc := 14) (v := 780) dX5_init_14 (by decide) ?_
  refine y_newa (pc := 17) (t := 0) (Z := 780) (a0 := (780, .inl (fun _ => 0))) dX5_init_17 ac_int rfl rfl (fun _ => rfl) (by decide) (by decide) (by decide) (by show 2 ≤ K; omega) (by show 1560 ≤ N; omega) (fun q2 => ?_)
  refine y_world (w' := [(h0, .inr (5, [.ref q1, .null, .null, .null, .null, .int 0, .int 0, .int 0, .int 0, .int 0, .int 0])), (q1, .inl (C 0, (780, .inl (fun _ => 0)))), (q2, .inl (C 0, (780, .inl (fun _ => 0))))]) rfl ?_
  refine y_putF (pc := 19) (q0 := 0) dX5_init_19 ff_X5_15 rfl rfl (Nat.le_of_ble_eq_true rfl) ?_
  refine y_world (w' := [(h0, .inr (5, [.ref q1, .ref q2, .null, .null, .null, .int 0, .int 0, .int 0, .int 0, .int 0, .int 0])), (q1, .inl (C 0, (780, .inl (fun _ => 0)))), (q2, .inl (C 0, (780, .inl (fun _ => 0))))]) rfl ?_
  refine y_aload_n (pc := 22) dX5_init_22 rfl ?_
  refine y_sipush (pc := 23) (v := 780) dX5_init_23 (by decide) ?_
  refine y_newa (pc := 26) (t := 0) (Z := 780) (a0 := (780, .inl (fun _ => 0))) dX5_init_26 ac_int rfl rfl (fun _ => rfl) (by decide) (by decide) (by decide) (by show 3 ≤ K; omega) (by show 2340 ≤ N; omega) (fun q3 => ?_)
  refine y_world (w' := [(h0, .inr (5, [.ref q1, .ref q2, .null, .null, .null, .int 0, .int 0, .int 0, .int 0, .int 0, .int 0])), (q1, .inl (C 0, (780, .inl (fun _ => 0)))), (q2, .inl (C 0, (780, .inl (fun _ => 0)))), (q3, .inl (C 0, (780, .inl (fun _ => 0))))]) rfl ?_
  refine y_putF (pc := 28) (q0 := 0) dX5_init_28 ff_X5_18 rfl rfl (Nat.le_of_ble_eq_true rfl) ?_
  refine y_world (w' := [(h0, .inr (5, [.ref q1, .ref q2, .ref q3, .null, .null, .int 0, .int 0, .int 0, .int 0, .int 0, .int 0])), (q1, .inl (C 0, (780, .inl (fun _ => 0)))), (q2, .inl (C 0, (780, .inl (fun _ => 0)))), (q3, .inl (C 0, (780, .inl (fun _ => 0))))]) rfl ?_
  refine y_aload_n (pc := 31) dX5_init_31 rfl ?_
  refine y_sipush (pc := 32) (v := 780) dX5_init_32 (by decide) ?_
  refine y_newa (pc := 35) (t := 0) (Z := 780) (a0 := (780, .inl (fun _ => 0))) dX5_init_35 ac_int rfl rfl (fun _ => rfl) (by decide) (by decide) (by decide) (by show 4 ≤ K; omega) (by show 3120 ≤ N; omega) (fun q4 => ?_)
  refine y_world (w' := [(h0, .inr (5, [.ref q1, .ref q2, .ref q3, .null, .null, .int 0, .int 0, .int 0, .int 0, .int 0, .int 0])), (q1, .inl (C 0, (780, .inl (fun _ => 0)))), (q2, .inl (C 0, (780, .inl (fun _ => 0)))), (q3, .inl (C 0, (780, .inl (fun _ => 0)))), (q4, .inl (C 0, (780, .inl (fun _ => 0))))]) rfl ?_
  refine y_putF (pc := 37) (q0 := 0) dX5_init_37 ff_X5_21 rfl rfl (Nat.le_of_ble_eq_true rfl) ?_
  refine y_world (w' := [(h0, .inr (5, [.ref q1, .ref q2, .ref q3, .ref q4, .null, .int 0, .int 0, .int 0, .int 0, .int 0, .int 0])), (q1, .inl (C 0, (780, .inl (fun _ => 0)))), (q2, .inl (C 0, (780, .inl (fun _ => 0)))), (q3, .inl (C 0, (780, .inl (fun _ => 0)))), (q4, .inl (C 0, (780, .inl (fun _ => 0))))]) rfl ?_
  refine y_aload_n (pc := 40) dX5_init_40 rfl ?_
  refine y_new (pc := 41) dX5_init_41 nw_X5_24 (by show 5 ≤ K; omega) (by show 3123 ≤ N; omega) (fun q5 => ?_)
  refine y_dup (pc := 44) dX5_init_44 rfl ?_
  refine y_init (pc := 45) (K' := 0) (N' := 0) [] dX5_init_45 ci_X5_26 rfl (Nat.le_of_ble_eq_true rfl) rfl (by show 5 ≤ K; omega) (by show 3123 ≤ N; omega) ?_
  refine yc_X4 (by decide) (by decide) (fun (_ : Unit) => ⟨dX4_init_19, rfl, by decide, by decide, ?_⟩)
  refine y_world (w' := [(h0, .inr (5, [.ref q1, .ref q2, .ref q3, .ref q4, .null, .int 0, .int 0, .int 0, .int 0, .int 0, .int 0])), (q1, .inl (C 0, (780, .inl (fun _ => 0)))), (q2, .inl (C 0, (780, .inl (fun _ => 0)))), (q3, .inl (C 0, (780, .inl (fun _ => 0)))), (q4, .inl (C 0, (780, .inl (fun _ => 0)))), (q5, .inr (4, [.int (0), .int (1), .int (0)]))]) rfl ?_
  refine y_putF (pc := 48) (q0 := 0) dX5_init_48 ff_X5_27 rfl rfl (Nat.le_of_ble_eq_true rfl) ?_
  refine y_world (w' := [(h0, .inr (5, [.ref q1, .ref q2, .ref q3, .ref q4, .ref q5, .int 0, .int 0, .int 0, .int 0, .int 0, .int 0])), (q1, .inl (C 0, (780, .inl (fun _ => 0)))), (q2, .inl (C 0, (780, .inl (fun _ => 0)))), (q3, .inl (C 0, (780, .inl (fun _ => 0)))), (q4, .inl (C 0, (780, .inl (fun _ => 0)))), (q5, .inr (4, [.int (0), .int (1), .int (0)]))]) rfl ?_
  exact y_stop (h q1 q2 q3 q4 q5)
set_option maxRecDepth 20000 in
theorem yc_X11 {l : Launch} {D : va_G} {C : Nat → ClassId} {d K N : Nat} {Q : Yq} {h0 : Nat} (hK : 18 ≤ K) (hN : 1530 ≤ N) (h : ∀ q1 q2 q3 q4 q5 q6 q7 q8 q9 q10 q11 q12 q13 q14 q15 q16 q17 q18 : Nat, Q 160 [some (.ref h0)] [] [(h0, .inr (11, [.int 0, .ref q1, .ref q2, .ref q3, .ref q4, .ref q5, .int (-1000000), .int 0, .int 0, .int 0, .int 0, .int 0, .ref q6, .ref q7, .ref q8, .ref q9, .int 0, .ref q10, .int 0, .int 0, .long 0, .long 1, .long 0, .long 0, .long 0, .long 0, .ref q11, .ref q12, .ref q13, .int 0, .long 0, .long 0, .long 0, .ref q14, .ref q15, .ref q16, .ref q17, .ref q18, .long 0, .long 0])), (q1, .inl (C 0, (40, .inl (fun _ => 0)))), (q2, .inl (C 0, (40, .inl (fun _ => 0)))), (q3, .inl (C 0, (40, .inl (fun _ => 0)))), (q4, .inl (C 0, (40, .inl (fun _ => 0)))), (q5, .inl (C 2, (40, .inl (fun _ => 0)))), (q6, .inl (C 0, (8, .inl (fun _ => 0)))), (q7, .inl (C 0, (8, .inl (fun _ => 0)))), (q8, .inl (C 1, (800, .inr (.inl (fun _ => 0))))), (q9, .inl (C 1, (100, .inr (.inl (fun _ => 0))))), (q10, .inl (C 0, (16, .inl (fun _ => 0)))), (q11, .inl (C 1, (40, .inr (.inl (fun _ => 0))))), (q12, .inl (C 1, (40, .inr (.inl (fun _ => 0))))), (q13, .inl (C 0, (40, .inl (fun _ => 0)))), (q14, .inl (C 1, (66, .inr (.inl (fun _ => 0))))), (q15, .inl (C 1, (66, .inr (.inl (fun _ => 0))))), (q16, .inl (C 1, (66, .inr (.inl (fun _ => 0))))), (q17, .inl (C 0, (40, .inl (fun _ => 0)))), (q18, .inl (C 2, (40, .inl (fun _ => 0))))] 18 1530) : Y l D C M_X11_init (d + 1) K N 0 [some (.ref h0)] [] [(h0, .inr (11, dfl 11))] 0 0 Q := by
  refine y_world (w' := [(h0, .inr (11, [.int 0, .null, .null, .null, .null, .null, .int 0, .int 0, .int 0, .int 0, .int 0, .int 0, .null, .null, .null, .null, .int 0, .null, .int 0, .int 0, .long 0, .long 0, .long 0, .long 0, .long 0, .long 0, .null, .null, .null, .int 0, .long 0, .long 0, .long 0, .null, .null, .null, .null, .null, .long 0, .long 0]))]) rfl ?_
  refine y_aload_n (pc := 0) dX11_init_0 rfl ?_
  refine y_objInit (pc := 1) dX11_init_1 oi_X11_1 oi_i oi_c rfl ?_
  refine y_aload_n (pc := 4) dX11_init_4 rfl ?_
  refine y_bipush (pc := 5) (v := 40) dX11_init_5 (by decide) ?_
  refine y_newa (pc := 7) (t := 0) (Z := 40) (a0 := (40, .inl (fun _ => 0))) dX11_init_7 ac_int rfl rfl (fun _ => rfl) (by decide) (by decide) (by decide) (by show 1 ≤ K; omega) (by show 40 ≤ N; omega) (fun q1 => ?_)
  refine y_world (w' := [(h0, .inr (11, [.int 0, .null, .null, .null, .null, .null, .int 0, .int 0, .int 0, .int 0, .int 0, .int 0, .null, .null, .null, .null, .int 0, .null, .int 0, .int 0, .long 0, .long 0, .long 0, .long 0, .long 0, .long 0, .null, .null, .null, .int 0, .long 0, .long 0, .long 0, .null, .null, .null, .null, .null, .long 0, .long 0])), (q1, .inl (C 0, (40, .inl (fun _ => 0))))]) rfl ?_
  refine y_putF (pc := 9) (q0 := 0) dX11_init_9 ff_X11_7 rfl rfl (Nat.le_of_ble_eq_true rfl) ?_
  refine y_world (w' := [(h0, .inr (11, [.int 0, .ref q1, .null, .null, .null, .null, .int 0, .int 0, .int 0, .int 0, .int 0, .int 0, .null, .null, .null, .null, .int 0, .null, .int 0, .int 0, .long 0, .long 0, .long 0, .long 0, .long 0, .long 0, .null, .null, .null, .int 0, .long 0, .long 0, .long 0, .null, .null, .null, .null, .null, .long 0, .long 0])), (q1, .inl (C 0, (40, .inl (fun _ => 0))))]) rfl ?_
  refine y_aload_n (pc := 12) dX11_init_12 rfl ?_
  refine y_bipush (pc := 13) (v := 40) dX11_init_13 (by decide) ?_
  refine y_newa (pc := 15) (t := 0) (Z := 40) (a0 := (40, .inl (fun _ => 0))) dX11_init_15 ac_int rfl rfl (fun _ => rfl) (by decide) (by decide) (by decide) (by show 2 ≤ K; omega) (by show 80 ≤ N; omega) (fun q2 => ?_)
  refine y_world (w' := [(h0, .inr (11, [.int 0, .ref q1, .null, .null, .null, .null, .int 0, .int 0, .int 0, .int 0, .int 0, .int 0, .null, .null, .null, .null, .int 0, .null, .int 0, .int 0, .long 0, .long 0, .long 0, .long 0, .long 0, .long 0, .null, .null, .null, .int 0, .long 0, .long 0, .long 0, .null, .null, .null, .null, .null, .long 0, .long 0])), (q1, .inl (C 0, (40, .inl (fun _ => 0)))), (q2, .inl (C 0, (40, .inl (fun _ => 0))))]) rfl ?_
  refine y_putF (pc := 17) (q0 := 0) dX11_init_17 ff_X11_13 rfl rfl (Nat.le_of_ble_eq_true rfl) ?_
  refine y_world (w' := [(h0, .inr (11, [.int 0, .ref q1, .ref q2, .null, .null, .null, .int 0, .int 0, .int 0, .int 0, .int 0, .int 0, .null, .null, .null, .null, .int 0, .null, .int 0, .int 0, .long 0, .long 0, .long 0, .long 0, .long 0, .long 0, .null, .null, .null, .int 0, .long 0, .long 0, .long 0, .null, .null, .null, .null, .null, .long 0, .long 0])), (q1, .inl (C 0, (40, .inl (fun _ => 0)))), (q2, .inl (C 0, (40, .inl (fun _ => 0))))]) rfl ?_
  refine y_aload_n (pc := 20) dX11_init_20 rfl ?_
  refine y_bipush (pc := 21) (v := 40) dX11_init_21 (by decide) ?_
  refine y_newa (pc := 23) (t := 0) (Z := 40) (a0 := (40, .inl (fun _ => 0))) dX11_init_23 ac_int rfl rfl (fun _ => rfl) (by decide) (by decide) (by decide) (by show 3 ≤ K; omega) (by show 120 ≤ N; omega) (fun q3 => ?_)
  refine y_world (w' := [(h0, .inr (11, [.int 0, .ref q1, .ref q2, .null, .null, .null, .int 0, .int 0, .int 0, .int 0, .int 0, .int 0, .null, .null, .null, .null, .int 0, .null, .int 0, .int 0, .long 0, .long 0, .long 0, .long 0, .long 0, .long 0, .null, .null, .null, .int 0, .long 0, .long 0, .long 0, .null, .null, .null, .null, .null, .long 0, .long 0])), (q1, .inl (C 0, (40, .inl (fun _ => 0)))), (q2, .inl (C 0, (40, .inl (fun _ => 0)))), (q3, .inl (C 0, (40, .inl (fun _ => 0))))]) rfl ?_
  refine y_putF (pc := 25) (q0 := 0) dX11_init_25 ff_X11_16 rfl rfl (Nat.le_of_ble_eq_true rfl) ?_
  refine y_world (w' := [(h0, .inr (11, [.int 0, .ref q1, .ref q2, .ref q3, .null, .null, .int 0, .int 0, .int 0, .int 0, .int 0, .int 0, .null, .null, .null, .null, .int 0, .null, .int 0, .int 0, .long 0, .long 0, .long 0, .long 0, .long 0, .long 0, .null, .null, .null, .int 0, .long 0, .long 0, .long 0, .null, .null, .null, .null, .null, .long 0, .long 0])), (q1, .inl (C 0, (40, .inl (fun _ => 0)))), (q2, .inl (C 0, (40, .inl (fun _ => 0)))), (q3, .inl (C 0, (40, .inl (fun _ => 0))))]) rfl ?_
  refine y_aload_n (pc := 28) dX11_init_28 rfl ?_
  refine y_bipush (pc := 29) (v := 40) dX11_init_29 (by decide) ?_
  refine y_newa (pc := 31) (t := 0) (Z := 40) (a0 := (40, .inl (fun _ => 0))) dX11_init_31 ac_int rfl rfl (fun _ => rfl) (by decide) (by decide) (by decide) (by show 4 ≤ K; omega) (by show 160 ≤ N; omega) (fun q4 => ?_)
  refine y_world (w' := [(h0, .inr (11, [.int 0, .ref q1, .ref q2, .ref q3, .null, .null, .int 0, .int 0, .int 0, .int 0, .int 0, .int 0, .null, .null, .null, .null, .int 0, .null, .int 0, .int 0, .long 0, .long 0, .long 0, .long 0, .long 0, .long 0, .null, .null, .null, .int 0, .long 0, .long 0, .long 0, .null, .null, .null, .null, .null, .long 0, .long 0])), (q1, .inl (C 0, (40, .inl (fun _ => 0)))), (q2, .inl (C 0, (40, .inl (fun _ => 0)))), (q3, .inl (C 0, (40, .inl (fun _ => 0)))), (q4, .inl (C 0, (40, .inl (fun _ => 0))))]) rfl ?_
  refine y_putF (pc := 33) (q0 := 0) dX11_init_33 ff_X11_19 rfl rfl (Nat.le_of_ble_eq_true rfl) ?_
  refine y_world (w' := [(h0, .inr (11, [.int 0, .ref q1, .ref q2, .ref q3, .ref q4, .null, .int 0, .int 0, .int 0, .int 0, .int 0, .int 0, .null, .null, .null, .null, .int 0, .null, .int 0, .int 0, .long 0, .long 0, .long 0, .long 0, .long 0, .long 0, .null, .null, .null, .int 0, .long 0, .long 0, .long 0, .null, .null, .null, .null, .null, .long 0, .long 0])), (q1, .inl (C 0, (40, .inl (fun _ => 0)))), (q2, .inl (C 0, (40, .inl (fun _ => 0)))), (q3, .inl (C 0, (40, .inl (fun _ => 0)))), (q4, .inl (C 0, (40, .inl (fun _ => 0))))]) rfl ?_
  refine y_aload_n (pc := 36) dX11_init_36 rfl ?_
  refine y_bipush (pc := 37) (v := 40) dX11_init_37 (by decide) ?_
  refine y_newa (pc := 39) (t := 2) (Z := 40) (a0 := (40, .inl (fun _ => 0))) dX11_init_39 ac_boolean rfl rfl (fun _ => rfl) (by decide) (by decide) (by decide) (by show 5 ≤ K; omega) (by show 200 ≤ N; omega) (fun q5 => ?_)
  refine y_world (w' := [(h0, .inr (11, [.int 0, .ref q1, .ref q2, .ref q3, .ref q4, .null, .int 0, .int 0, .int 0, .int 0, .int 0, .int 0, .null, .null, .null, .null, .int 0, .null, .int 0, .int 0, .long 0, .long 0, .long 0, .long 0, .long 0, .long 0, .null, .null, .null, .int 0, .long 0, .long 0, .long 0, .null, .null, .null, .null, .null, .long 0, .long 0])), (q1, .inl (C 0, (40, .inl (fun _ => 0)))), (q2, .inl (C 0, (40, .inl (fun _ => 0)))), (q3, .inl (C 0, (40, .inl (fun _ => 0)))), (q4, .inl (C 0, (40, .inl (fun _ => 0)))), (q5, .inl (C 2, (40, .inl (fun _ => 0))))]) rfl ?_
  refine y_putF (pc := 41) (q0 := 0) dX11_init_41 ff_X11_22 rfl rfl (Nat.le_of_ble_eq_true rfl) ?_
  refine y_world (w' := [(h0, .inr (11, [.int 0, .ref q1, .ref q2, .ref q3, .ref q4, .ref q5, .int 0, .int 0, .int 0, .int 0, .int 0, .int 0, .null, .null, .null, .null, .int 0, .null, .int 0, .int 0, .long 0, .long 0, .long 0, .long 0, .long 0, .long 0, .null, .null, .null, .int 0, .long 0, .long 0, .long 0, .null, .null, .null, .null, .null, .long 0, .long 0])), (q1, .inl (C 0, (40, .inl (fun _ => 0)))), (q2, .inl (C 0, (40, .inl (fun _ => 0)))), (q3, .inl (C 0, (40, .inl (fun _ => 0)))), (q4, .inl (C 0, (40, .inl (fun _ => 0)))), (q5, .inl (C 2, (40, .inl (fun _ => 0))))]) rfl ?_
  refine y_aload_n (pc := 44) dX11_init_44 rfl ?_
  refine y_ldc (pc := 45) dX11_init_45 kc_X11_26 ?_
  refine y_put (pc := 47) (q0 := 0) dX11_init_47 fk_X11_27 (by decide) (Or.inl ⟨rfl, _, rfl⟩) rfl (Nat.le_of_ble_eq_true rfl) ?_
  refine y_world (w' := [(h0, .inr (11, [.int 0, .ref q1, .ref q2, .ref q3, .ref q4, .ref q5, .int (-1000000), .int 0, .int 0, .int 0, .int 0, .int 0, .null, .null, .null, .null, .int 0, .null, .int 0, .int 0, .long 0, .long 0, .long 0, .long 0, .long 0, .long 0, .null, .null, .null, .int 0, .long 0, .long 0, .long 0, .null, .null, .null, .null, .null, .long 0, .long 0])), (q1, .inl (C 0, (40, .inl (fun _ => 0)))), (q2, .inl (C 0, (40, .inl (fun _ => 0)))), (q3, .inl (C 0, (40, .inl (fun _ => 0)))), (q4, .inl (C 0, (40, .inl (fun _ => 0)))), (q5, .inl (C 2, (40, .inl (fun _ => 0))))]) rfl ?_
  refine y_aload_n (pc := 50) dX11_init_50 rfl ?_
  refine y_bipush (pc := 51) (v := 8) dX11_init_51 (by decide) ?_
  refine y_newa (pc := 53) (t := 0) (Z := 8) (a0 := (8, .inl (fun _ => 0))) dX11_init_53 ac_int rfl rfl (fun _ => rfl) (by decide) (by decide) (by decide) (by show 6 ≤ K; omega) (by show 208 ≤ N; omega) (fun q6 => ?_)
  refine y_world (w' := [(h0, .inr (11, [.int 0, .ref q1, .ref q2, .ref q3, .ref q4, .ref q5, .int (-1000000), .int 0, .int 0, .int 0, .int 0, .int 0, .null, .null, .null, .null, .int 0, .null, .int 0, .int 0, .long 0, .long 0, .long 0, .long 0, .long 0, .long 0, .null, .null, .null, .int 0, .long 0, .long 0, .long 0, .null, .null, .null, .null, .null, .long 0, .long 0])), (q1, .inl (C 0, (40, .inl (fun _ => 0)))), (q2, .inl (C 0, (40, .inl (fun _ => 0)))), (q3, .inl (C 0, (40, .inl (fun _ => 0)))), (q4, .inl (C 0, (40, .inl (fun _ => 0)))), (q5, .inl (C 2, (40, .inl (fun _ => 0)))), (q6, .inl (C 0, (8, .inl (fun _ => 0))))]) rfl ?_
  refine y_putF (pc := 55) (q0 := 0) dX11_init_55 ff_X11_31 rfl rfl (Nat.le_of_ble_eq_true rfl) ?_
  refine y_world (w' := [(h0, .inr (11, [.int 0, .ref q1, .ref q2, .ref q3, .ref q4, .ref q5, .int (-1000000), .int 0, .int 0, .int 0, .int 0, .int 0, .ref q6, .null, .null, .null, .int 0, .null, .int 0, .int 0, .long 0, .long 0, .long 0, .long 0, .long 0, .long 0, .null, .null, .null, .int 0, .long 0, .long 0, .long 0, .null, .null, .null, .null, .null, .long 0, .long 0])), (q1, .inl (C 0, (40, .inl (fun _ => 0)))), (q2, .inl (C 0, (40, .inl (fun _ => 0)))), (q3, .inl (C 0, (40, .inl (fun _ => 0)))), (q4, .inl (C 0, (40, .inl (fun _ => 0)))), (q5, .inl (C 2, (40, .inl (fun _ => 0)))), (q6, .inl (C 0, (8, .inl (fun _ => 0))))]) rfl ?_
  refine y_aload_n (pc := 58) dX11_init_58 rfl ?_
  refine y_bipush (pc := 59) (v := 8) dX11_init_59 (by decide) ?_
  refine y_newa (pc := 61) (t := 0) (Z := 8) (a0 := (8, .inl (fun _ => 0))) dX11_init_61 ac_int rfl rfl (fun _ => rfl) (by decide) (by decide) (by decide) (by show 7 ≤ K; omega) (by show 216 ≤ N; omega) (fun q7 => ?_)
  refine y_world (w' := [(h0, .inr (11, [.int 0, .ref q1, .ref q2, .ref q3, .ref q4, .ref q5, .int (-1000000), .int 0, .int 0, .int 0, .int 0, .int 0, .ref q6, .null, .null, .null, .int 0, .null, .int 0, .int 0, .long 0, .long 0, .long 0, .long 0, .long 0, .long 0, .null, .null, .null, .int 0, .long 0, .long 0, .long 0, .null, .null, .null, .null, .null, .long 0, .long 0])), (q1, .inl (C 0, (40, .inl (fun _ => 0)))), (q2, .inl (C 0, (40, .inl (fun _ => 0)))), (q3, .inl (C 0, (40, .inl (fun _ => 0)))), (q4, .inl (C 0, (40, .inl (fun _ => 0)))), (q5, .inl (C 2, (40, .inl (fun _ => 0)))), (q6, .inl (C 0, (8, .inl (fun _ => 0)))), (q7, .inl (C 0, (8, .inl (fun _ => 0))))]) rfl ?_
  refine y_putF (pc := 63) (q0 := 0) dX11_init_63 ff_X11_34 rfl rfl (Nat.le_of_ble_eq_true rfl) ?_
  refine y_world (w' := [(h0, .inr (11, [.int 0, .ref q1, .ref q2, .ref q3, .ref q4, .ref q5, .int (-1000000), .int 0, .int 0, .int 0, .int 0, .int 0, .ref q6, .ref q7, .null, .null, .int 0, .null, .int 0, .int 0, .long 0, .long 0, .long 0, .long 0, .long 0, .long 0, .null, .null, .null, .int 0, .long 0, .long 0, .long 0, .null, .null, .null, .null, .null, .long 0, .long 0])), (q1, .inl (C 0, (40, .inl (fun _ => 0)))), (q2, .inl (C 0, (40, .inl (fun _ => 0)))), (q3, .inl (C 0, (40, .inl (fun _ => 0)))), (q4, .inl (C 0, (40, .inl (fun _ => 0)))), (q5, .inl (C 2, (40, .inl (fun _ => 0)))), (q6, .inl (C 0, (8, .inl (fun _ => 0)))), (q7, .inl (C 0, (8, .inl (fun _ => 0))))]) rfl ?_
  refine y_aload_n (pc := 66) dX11_init_66 rfl ?_
  refine y_sipush (pc := 67) (v := 800) dX11_init_67 (by decide) ?_
  refine y_newa (pc := 70) (t := 1) (Z := 800) (a0 := (800, .inr (.inl (fun _ => 0)))) dX11_init_70 ac_long rfl rfl (fun _ => rfl) (by decide) (by decide) (by decide) (by show 8 ≤ K; omega) (by show 1016 ≤ N; omega) (fun q8 => ?_)
  refine y_world (w' := [(h0, .inr (11, [.int 0, .ref q1, .ref q2, .ref q3, .ref q4, .ref q5, .int (-1000000), .int 0, .int 0, .int 0, .int 0, .int 0, .ref q6, .ref q7, .null, .null, .int 0, .null, .int 0, .int 0, .long 0, .long 0, .long 0, .long 0, .long 0, .long 0, .null, .null, .null, .int 0, .long 0, .long 0, .long 0, .null, .null, .null, .null, .null, .long 0, .long 0])), (q1, .inl (C 0, (40, .inl (fun _ => 0)))), (q2, .inl (C 0, (40, .inl (fun _ => 0)))), (q3, .inl (C 0, (40, .inl (fun _ => 0)))), (q4, .inl (C 0, (40, .inl (fun _ => 0)))), (q5, .inl (C 2, (40, .inl (fun _ => 0)))), (q6, .inl (C 0, (8, .inl (fun _ => 0)))), (q7, .inl (C 0, (8, .inl (fun _ => 0)))), (q8, .inl (C 1, (800, .inr (.inl (fun _ => 0)))))]) rfl ?_
  refine y_putF (pc := 72) (q0 := 0) dX11_init_72 ff_X11_37 rfl rfl (Nat.le_of_ble_eq_true rfl) ?_
  refine y_world (w' := [(h0, .inr (11, [.int 0, .ref q1, .ref q2, .ref q3, .ref q4, .ref q5, .int (-1000000), .int 0, .int 0, .int 0, .int 0, .int 0, .ref q6, .ref q7, .ref q8, .null, .int 0, .null, .int 0, .int 0, .long 0, .long 0, .long 0, .long 0, .long 0, .long 0, .null, .null, .null, .int 0, .long 0, .long 0, .long 0, .null, .null, .null, .null, .null, .long 0, .long 0])), (q1, .inl (C 0, (40, .inl (fun _ => 0)))), (q2, .inl (C 0, (40, .inl (fun _ => 0)))), (q3, .inl (C 0, (40, .inl (fun _ => 0)))), (q4, .inl (C 0, (40, .inl (fun _ => 0)))), (q5, .inl (C 2, (40, .inl (fun _ => 0)))), (q6, .inl (C 0, (8, .inl (fun _ => 0)))), (q7, .inl (C 0, (8, .inl (fun _ => 0)))), (q8, .inl (C 1, (800, .inr (.inl (fun _ => 0)))))]) rfl ?_
  refine y_aload_n (pc := 75) dX11_init_75 rfl ?_
  refine y_bipush (pc := 76) (v := 100) dX11_init_76 (by decide) ?_
  refine y_newa (pc := 78) (t := 1) (Z := 100) (a0 := (100, .inr (.inl (fun _ => 0)))) dX11_init_78 ac_long rfl rfl (fun _ => rfl) (by decide) (by decide) (by decide) (by show 9 ≤ K; omega) (by show 1116 ≤ N; omega) (fun q9 => ?_)
  refine y_world (w' := [(h0, .inr (11, [.int 0, .ref q1, .ref q2, .ref q3, .ref q4, .ref q5, .int (-1000000), .int 0, .int 0, .int 0, .int 0, .int 0, .ref q6, .ref q7, .ref q8, .null, .int 0, .null, .int 0, .int 0, .long 0, .long 0, .long 0, .long 0, .long 0, .long 0, .null, .null, .null, .int 0, .long 0, .long 0, .long 0, .null, .null, .null, .null, .null, .long 0, .long 0])), (q1, .inl (C 0, (40, .inl (fun _ => 0)))), (q2, .inl (C 0, (40, .inl (fun _ => 0)))), (q3, .inl (C 0, (40, .inl (fun _ => 0)))), (q4, .inl (C 0, (40, .inl (fun _ => 0)))), (q5, .inl (C 2, (40, .inl (fun _ => 0)))), (q6, .inl (C 0, (8, .inl (fun _ => 0)))), (q7, .inl (C 0, (8, .inl (fun _ => 0)))), (q8, .inl (C 1, (800, .inr (.inl (fun _ => 0))))), (q9, .inl (C 1, (100, .inr (.inl (fun _ => 0)))))]) rfl ?_
  refine y_putF (pc := 80) (q0 := 0) dX11_init_80 ff_X11_41 rfl rfl (Nat.le_of_ble_eq_true rfl) ?_
  refine y_world (w' := [(h0, .inr (11, [.int 0, .ref q1, .ref q2, .ref q3, .ref q4, .ref q5, .int (-1000000), .int 0, .int 0, .int 0, .int 0, .int 0, .ref q6, .ref q7, .ref q8, .ref q9, .int 0, .null, .int 0, .int 0, .long 0, .long 0, .long 0, .long 0, .long 0, .long 0, .null, .null, .null, .int 0, .long 0, .long 0, .long 0, .null, .null, .null, .null, .null, .long 0, .long 0])), (q1, .inl (C 0, (40, .inl (fun _ => 0)))), (q2, .inl (C 0, (40, .inl (fun _ => 0)))), (q3, .inl (C 0, (40, .inl (fun _ => 0)))), (q4, .inl (C 0, (40, .inl (fun _ => 0)))), (q5, .inl (C 2, (40, .inl (fun _ => 0)))), (q6, .inl (C 0, (8, .inl (fun _ => 0)))), (q7, .inl (C 0, (8, .inl (fun _ => 0)))), (q8, .inl (C 1, (800, .inr (.inl (fun _ => 0))))), (q9, .inl (C 1, (100, .inr (.inl (fun _ => 0)))))]) rfl ?_
  refine y_aload_n (pc := 83) dX11_init_83 rfl ?_
  refine y_bipush (pc := 84) (v := 16) dX11_init_84 (by decide) ?_
  refine y_newa (pc := 86) (t := 0) (Z := 16) (a0 := (16, .inl (fun _ => 0))) dX11_init_86 ac_int rfl rfl (fun _ => rfl) (by decide) (by decide) (by decide) (by show 10 ≤ K; omega) (by show 1132 ≤ N; omega) (fun q10 => ?_)
  refine y_world (w' := [(h0, .inr (11, [.int 0, .ref q1, .ref q2, .ref q3, .ref q4, .ref q5, .int (-1000000), .int 0, .int 0, .int 0, .int 0, .int 0, .ref q6, .ref q7, .ref q8, .ref q9, .int 0, .null, .int 0, .int 0, .long 0, .long 0, .long 0, .long 0, .long 0, .long 0, .null, .null, .null, .int 0, .long 0, .long 0, .long 0, .null, .null, .null, .null, .null, .long 0, .long 0])), (q1, .inl (C 0, (40, .inl (fun _ => 0)))), (q2, .inl (C 0, (40, .inl (fun _ => 0)))), (q3, .inl (C 0, (40, .inl (fun _ => 0)))), (q4, .inl (C 0, (40, .inl (fun _ => 0)))), (q5, .inl (C 2, (40, .inl (fun _ => 0)))), (q6, .inl (C 0, (8, .inl (fun _ => 0)))), (q7, .inl (C 0, (8, .inl (fun _ => 0)))), (q8, .inl (C 1, (800, .inr (.inl (fun _ => 0))))), (q9, .inl (C 1, (100, .inr (.inl (fun _ => 0))))), (q10, .inl (C 0, (16, .inl (fun _ => 0))))]) rfl ?_
  refine y_putF (pc := 88) (q0 := 0) dX11_init_88 ff_X11_44 rfl rfl (Nat.le_of_ble_eq_true rfl) ?_
  refine y_world (w' := [(h0, .inr (11, [.int 0, .ref q1, .ref q2, .ref q3, .ref q4, .ref q5, .int (-1000000), .int 0, .int 0, .int 0, .int 0, .int 0, .ref q6, .ref q7, .ref q8, .ref q9, .int 0, .ref q10, .int 0, .int 0, .long 0, .long 0, .long 0, .long 0, .long 0, .long 0, .null, .null, .null, .int 0, .long 0, .long 0, .long 0, .null, .null, .null, .null, .null, .long 0, .long 0])), (q1, .inl (C 0, (40, .inl (fun _ => 0)))), (q2, .inl (C 0, (40, .inl (fun _ => 0)))), (q3, .inl (C 0, (40, .inl (fun _ => 0)))), (q4, .inl (C 0, (40, .inl (fun _ => 0)))), (q5, .inl (C 2, (40, .inl (fun _ => 0)))), (q6, .inl (C 0, (8, .inl (fun _ => 0)))), (q7, .inl (C 0, (8, .inl (fun _ => 0)))), (q8, .inl (C 1, (800, .inr (.inl (fun _ => 0))))), (q9, .inl (C 1, (100, .inr (.inl (fun _ => 0))))), (q10, .inl (C 0, (16, .inl (fun _ => 0))))]) rfl ?_
  refine y_aload_n (pc := 91) dX11_init_91 rfl ?_
  refine y_lconst (pc := 92) (v := 1) dX11_init_92 (by decide) ?_
  refine y_put (pc := 93) (q0 := 0) dX11_init_93 fk_X11_47 (by decide) (Or.inr ⟨rfl, _, rfl⟩) rfl (Nat.le_of_ble_eq_true rfl) ?_
  refine y_world (w' := [(h0, .inr (11, [.int 0, .ref q1, .ref q2, .ref q3, .ref q4, .ref q5, .int (-1000000), .int 0, .int 0, .int 0, .int 0, .int 0, .ref q6, .ref q7, .ref q8, .ref q9, .int 0, .ref q10, .int 0, .int 0, .long 0, .long 1, .long 0, .long 0, .long 0, .long 0, .null, .null, .null, .int 0, .long 0, .long 0, .long 0, .null, .null, .null, .null, .null, .long 0, .long 0])), (q1, .inl (C 0, (40, .inl (fun _ => 0)))), (q2, .inl (C 0, (40, .inl (fun _ => 0)))), (q3, .inl (C 0, (40, .inl (fun _ => 0)))), (q4, .inl (C 0, (40, .inl (fun _ => 0)))), (q5, .inl (C 2, (40, .inl (fun _ => 0)))), (q6, .inl (C 0, (8, .inl (fun _ => 0)))), (q7, .inl (C 0, (8, .inl (fun _ => 0)))), (q8, .inl (C 1, (800, .inr (.inl (fun _ => 0))))), (q9, .inl (C 1, (100, .inr (.inl (fun _ => 0))))), (q10, .inl (C 0, (16, .inl (fun _ => 0))))]) rfl ?_
  refine y_aload_n (pc := 96) dX11_init_96 rfl ?_
  refine y_bipush (pc := 97) (v := 40) dX11_init_97 (by decide) ?_
  refine y_newa (pc := 99) (t := 1) (Z := 40) (a0 := (40, .inr (.inl (fun _ => 0)))) dX11_init_99 ac_long rfl rfl (fun _ => rfl) (by decide) (by decide) (by decide) (by show 11 ≤ K; omega) (by show 1172 ≤ N; omega) (fun q11 => ?_)
  refine y_world (w' := [(h0, .inr (11, [.int 0, .ref q1, .ref q2, .ref q3, .ref q4, .ref q5, .int (-1000000), .int 0, .int 0, .int 0, .int 0, .int 0, .ref q6, .ref q7, .ref q8, .ref q9, .int 0, .ref q10, .int 0, .int 0, .long 0, .long 1, .long 0, .long 0, .long 0, .long 0, .null, .null, .null, .int 0, .long 0, .long 0, .long 0, .null, .null, .null, .null, .null, .long 0, .long 0])), (q1, .inl (C 0, (40, .inl (fun _ => 0)))), (q2, .inl (C 0, (40, .inl (fun _ => 0)))), (q3, .inl (C 0, (40, .inl (fun _ => 0)))), (q4, .inl (C 0, (40, .inl (fun _ => 0)))), (q5, .inl (C 2, (40, .inl (fun _ => 0)))), (q6, .inl (C 0, (8, .inl (fun _ => 0)))), (q7, .inl (C 0, (8, .inl (fun _ => 0)))), (q8, .inl (C 1, (800, .inr (.inl (fun _ => 0))))), (q9, .inl (C 1, (100, .inr (.inl (fun _ => 0))))), (q10, .inl (C 0, (16, .inl (fun _ => 0)))), (q11, .inl (C 1, (40, .inr (.inl (fun _ => 0)))))]) rfl ?_
  refine y_putF (pc := 101) (q0 := 0) dX11_init_101 ff_X11_51 rfl rfl (Nat.le_of_ble_eq_true rfl) ?_
  refine y_world (w' := [(h0, .inr (11, [.int 0, .ref q1, .ref q2, .ref q3, .ref q4, .ref q5, .int (-1000000), .int 0, .int 0, .int 0, .int 0, .int 0, .ref q6, .ref q7, .ref q8, .ref q9, .int 0, .ref q10, .int 0, .int 0, .long 0, .long 1, .long 0, .long 0, .long 0, .long 0, .ref q11, .null, .null, .int 0, .long 0, .long 0, .long 0, .null, .null, .null, .null, .null, .long 0, .long 0])), (q1, .inl (C 0, (40, .inl (fun _ => 0)))), (q2, .inl (C 0, (40, .inl (fun _ => 0)))), (q3, .inl (C 0, (40, .inl (fun _ => 0)))), (q4, .inl (C 0, (40, .inl (fun _ => 0)))), (q5, .inl (C 2, (40, .inl (fun _ => 0)))), (q6, .inl (C 0, (8, .inl (fun _ => 0)))), (q7, .inl (C 0, (8, .inl (fun _ => 0)))), (q8, .inl (C 1, (800, .inr (.inl (fun _ => 0))))), (q9, .inl (C 1, (100, .inr (.inl (fun _ => 0))))), (q10, .inl (C 0, (16, .inl (fun _ => 0)))), (q11, .inl (C 1, (40, .inr (.inl (fun _ => 0)))))]) rfl ?_
  refine y_aload_n (pc := 104) dX11_init_104 rfl ?_
  refine y_bipush (pc := 105) (v := 40) dX11_init_105 (by decide) ?_
  refine y_newa (pc := 107) (t := 1) (Z := 40) (a0 := (40, .inr (.inl (fun _ => 0)))) dX11_init_107 ac_long rfl rfl (fun _ => rfl) (by decide) (by decide) (by decide) (by show 12 ≤ K; omega) (by show 1212 ≤ N; omega) (fun q12 => ?_)
  refine y_world (w' := [(h0, .inr (11, [.int 0, .ref q1, .ref q2, .ref q3, .ref q4, .ref q5, .int (-1000000), .int 0, .int 0, .int 0, .int 0, .int 0, .ref q6, .ref q7, .ref q8, .ref q9, .int 0, .ref q10, .int 0, .int 0, .long 0, .long 1, .long 0, .long 0, .long 0, .long 0, .ref q11, .null, .null, .int 0, .long 0, .long 0, .long 0, .null, .null, .null, .null, .null, .long 0, .long 0])), (q1, .inl (C 0, (40, .inl (fun _ => 0)))), (q2, .inl (C 0, (40, .inl (fun _ => 0)))), (q3, .inl (C 0, (40, .inl (fun _ => 0)))), (q4, .inl (C 0, (40, .inl (fun _ => 0)))), (q5, .inl (C 2, (40, .inl (fun _ => 0)))), (q6, .inl (C 0, (8, .inl (fun _ => 0)))), (q7, .inl (C 0, (8, .inl (fun _ => 0)))), (q8, .inl (C 1, (800, .inr (.inl (fun _ => 0))))), (q9, .inl (C 1, (100, .inr (.inl (fun _ => 0))))), (q10, .inl (C 0, (16, .inl (fun _ => 0)))), (q11, .inl (C 1, (40, .inr (.inl (fun _ => 0))))), (q12, .inl (C 1, (40, .inr (.inl (fun _ => 0)))))]) rfl ?_
  refine y_putF (pc := 109) (q0 := 0) dX11_init_109 ff_X11_54 rfl rfl (Nat.le_of_ble_eq_true rfl) ?_
  refine y_world (w' := [(h0, .inr (11, [.int 0, .ref q1, .ref q2, .ref q3, .ref q4, .ref q5, .int (-1000000), .int 0, .int 0, .int 0, .int 0, .int 0, .ref q6, .ref q7, .ref q8, .ref q9, .int 0, .ref q10, .int 0, .int 0, .long 0, .long 1, .long 0, .long 0, .long 0, .long 0, .ref q11, .ref q12, .null, .int 0, .long 0, .long 0, .long 0, .null, .null, .null, .null, .null, .long 0, .long 0])), (q1, .inl (C 0, (40, .inl (fun _ => 0)))), (q2, .inl (C 0, (40, .inl (fun _ => 0)))), (q3, .inl (C 0, (40, .inl (fun _ => 0)))), (q4, .inl (C 0, (40, .inl (fun _ => 0)))), (q5, .inl (C 2, (40, .inl (fun _ => 0)))), (q6, .inl (C 0, (8, .inl (fun _ => 0)))), (q7, .inl (C 0, (8, .inl (fun _ => 0)))), (q8, .inl (C 1, (800, .inr (.inl (fun _ => 0))))), (q9, .inl (C 1, (100, .inr (.inl (fun _ => 0))))), (q10, .inl (C 0, (16, .inl (fun _ => 0)))), (q11, .inl (C 1, (40, .inr (.inl (fun _ => 0))))), (q12, .inl (C 1, (40, .inr (.inl (fun _ => 0)))))]) rfl ?_
  refine y_aload_n (pc := 112) dX11_init_112 rfl ?_
  refine y_bipush (pc := 113) (v := 40) dX11_init_113 (by decide) ?_
  refine y_newa (pc := 115) (t := 0) (Z := 40) (a0 := (40, .inl (fun _ => 0))) dX11_init_115 ac_int rfl rfl (fun _ => rfl) (by decide) (by decide) (by decide) (by show 13 ≤ K; omega) (by show 1252 ≤ N; omega) (fun q13 => ?_)
  refine y_world (w' := [(h0, .inr (11, [.int 0, .ref q1, .ref q2, .ref q3, .ref q4, .ref q5, .int (-1000000), .int 0, .int 0, .int 0, .int 0, .int 0, .ref q6, .ref q7, .ref q8, .ref q9, .int 0, .ref q10, .int 0, .int 0, .long 0, .long 1, .long 0, .long 0, .long 0, .long 0, .ref q11, .ref q12, .null, .int 0, .long 0, .long 0, .long 0, .null, .null, .null, .null, .null, .long 0, .long 0])), (q1, .inl (C 0, (40, .inl (fun _ => 0)))), (q2, .inl (C 0, (40, .inl (fun _ => 0)))), (q3, .inl (C 0, (40, .inl (fun _ => 0)))), (q4, .inl (C 0, (40, .inl (fun _ => 0)))), (q5, .inl (C 2, (40, .inl (fun _ => 0)))), (q6, .inl (C 0, (8, .inl (fun _ => 0)))), (q7, .inl (C 0, (8, .inl (fun _ => 0)))), (q8, .inl (C 1, (800, .inr (.inl (fun _ => 0))))), (q9, .inl (C 1, (100, .inr (.inl (fun _ => 0))))), (q10, .inl (C 0, (16, .inl (fun _ => 0)))), (q11, .inl (C 1, (40, .inr (.inl (fun _ => 0))))), (q12, .inl (C 1, (40, .inr (.inl (fun _ => 0))))), (q13, .inl (C 0, (40, .inl (fun _ => 0))))]) rfl ?_
  refine y_putF (pc := 117) (q0 := 0) dX11_init_117 ff_X11_57 rfl rfl (Nat.le_of_ble_eq_true rfl) ?_
  refine y_world (w' := [(h0, .inr (11, [.int 0, .ref q1, .ref q2, .ref q3, .ref q4, .ref q5, .int (-1000000), .int 0, .int 0, .int 0, .int 0, .int 0, .ref q6, .ref q7, .ref q8, .ref q9, .int 0, .ref q10, .int 0, .int 0, .long 0, .long 1, .long 0, .long 0, .long 0, .long 0, .ref q11, .ref q12, .ref q13, .int 0, .long 0, .long 0, .long 0, .null, .null, .null, .null, .null, .long 0, .long 0])), (q1, .inl (C 0, (40, .inl (fun _ => 0)))), (q2, .inl (C 0, (40, .inl (fun _ => 0)))), (q3, .inl (C 0, (40, .inl (fun _ => 0)))), (q4, .inl (C 0, (40, .inl (fun _ => 0)))), (q5, .inl (C 2, (40, .inl (fun _ => 0)))), (q6, .inl (C 0, (8, .inl (fun _ => 0)))), (q7, .inl (C 0, (8, .inl (fun _ => 0)))), (q8, .inl (C 1, (800, .inr (.inl (fun _ => 0))))), (q9, .inl (C 1, (100, .inr (.inl (fun _ => 0))))), (q10, .inl (C 0, (16, .inl (fun _ => 0)))), (q11, .inl (C 1, (40, .inr (.inl (fun _ => 0))))), (q12, .inl (C 1, (40, .inr (.inl (fun _ => 0))))), (q13, .inl (C 0, (40, .inl (fun _ => 0))))]) rfl ?_
  refine y_aload_n (pc := 120) dX11_init_120 rfl ?_
  refine y_bipush (pc := 121) (v := 66) dX11_init_121 (by decide) ?_
  refine y_newa (pc := 123) (t := 1) (Z := 66) (a0 := (66, .inr (.inl (fun _ => 0)))) dX11_init_123 ac_long rfl rfl (fun _ => rfl) (by decide) (by decide) (by decide) (by show 14 ≤ K; omega) (by show 1318 ≤ N; omega) (fun q14 => ?_)
  refine y_world (w' := [(h0, .inr (11, [.int 0, .ref q1, .ref q2, .ref q3, .ref q4, .ref q5, .int (-1000000), .int 0, .int 0, .int 0, .int 0, .int 0, .ref q6, .ref q7, .ref q8, .ref q9, .int 0, .ref q10, .int 0, .int 0, .long 0, .long 1, .long 0, .long 0, .long 0, .long 0, .ref q11, .ref q12, .ref q13, .int 0, .long 0, .long 0, .long 0, .null, .null, .null, .null, .null, .long 0, .long 0])), (q1, .inl (C 0, (40, .inl (fun _ => 0)))), (q2, .inl (C 0, (40, .inl (fun _ => 0)))), (q3, .inl (C 0, (40, .inl (fun _ => 0)))), (q4, .inl (C 0, (40, .inl (fun _ => 0)))), (q5, .inl (C 2, (40, .inl (fun _ => 0)))), (q6, .inl (C 0, (8, .inl (fun _ => 0)))), (q7, .inl (C 0, (8, .inl (fun _ => 0)))), (q8, .inl (C 1, (800, .inr (.inl (fun _ => 0))))), (q9, .inl (C 1, (100, .inr (.inl (fun _ => 0))))), (q10, .inl (C 0, (16, .inl (fun _ => 0)))), (q11, .inl (C 1, (40, .inr (.inl (fun _ => 0))))), (q12, .inl (C 1, (40, .inr (.inl (fun _ => 0))))), (q13, .inl (C 0, (40, .inl (fun _ => 0)))), (q14, .inl (C 1, (66, .inr (.inl (fun _ => 0)))))]) rfl ?_
  refine y_putF (pc := 125) (q0 := 0) dX11_init_125 ff_X11_60 rfl rfl (Nat.le_of_ble_eq_true rfl) ?_
  refine y_world (w' := [(h0, .inr (11, [.int 0, .ref q1, .ref q2, .ref q3, .ref q4, .ref q5, .int (-1000000), .int 0, .int 0, .int 0, .int 0, .int 0, .ref q6, .ref q7, .ref q8, .ref q9, .int 0, .ref q10, .int 0, .int 0, .long 0, .long 1, .long 0, .long 0, .long 0, .long 0, .ref q11, .ref q12, .ref q13, .int 0, .long 0, .long 0, .long 0, .ref q14, .null, .null, .null, .null, .long 0, .long 0])), (q1, .inl (C 0, (40, .inl (fun _ => 0)))), (q2, .inl (C 0, (40, .inl (fun _ => 0)))), (q3, .inl (C 0, (40, .inl (fun _ => 0)))), (q4, .inl (C 0, (40, .inl (fun _ => 0)))), (q5, .inl (C 2, (40, .inl (fun _ => 0)))), (q6, .inl (C 0, (8, .inl (fun _ => 0)))), (q7, .inl (C 0, (8, .inl (fun _ => 0)))), (q8, .inl (C 1, (800, .inr (.inl (fun _ => 0))))), (q9, .inl (C 1, (100, .inr (.inl (fun _ => 0))))), (q10, .inl (C 0, (16, .inl (fun _ => 0)))), (q11, .inl (C 1, (40, .inr (.inl (fun _ => 0))))), (q12, .inl (C 1, (40, .inr (.inl (fun _ => 0))))), (q13, .inl (C 0, (40, .inl (fun _ => 0)))), (q14, .inl (C 1, (66, .inr (.inl (fun _ => 0)))))]) rfl ?_
  refine y_aload_n (pc := 128) dX11_init_128 rfl ?_
  refine y_bipush (pc := 129) (v := 66) dX11_init_129 (by decide) ?_
  refine y_newa (pc := 131) (t := 1) (Z := 66) (a0 := (66, .inr (.inl (fun _ => 0)))) dX11_init_131 ac_long rfl rfl (fun _ => rfl) (by decide) (by decide) (by decide) (by show 15 ≤ K; omega) (by show 1384 ≤ N; omega) (fun q15 => ?_)
  refine y_world (w' := [(h0, .inr (11, [.int 0, .ref q1, .ref q2, .ref q3, .ref q4, .ref q5, .int (-1000000), .int 0, .int 0, .int 0, .int 0, .int 0, .ref q6, .ref q7, .ref q8, .ref q9, .int 0, .ref q10, .int 0, .int 0, .long 0, .long 1, .long 0, .long 0, .long 0, .long 0, .ref q11, .ref q12, .ref q13, .int 0, .long 0, .long 0, .long 0, .ref q14, .null, .null, .null, .null, .long 0, .long 0])), (q1, .inl (C 0, (40, .inl (fun _ => 0)))), (q2, .inl (C 0, (40, .inl (fun _ => 0)))), (q3, .inl (C 0, (40, .inl (fun _ => 0)))), (q4, .inl (C 0, (40, .inl (fun _ => 0)))), (q5, .inl (C 2, (40, .inl (fun _ => 0)))), (q6, .inl (C 0, (8, .inl (fun _ => 0)))), (q7, .inl (C 0, (8, .inl (fun _ => 0)))), (q8, .inl (C 1, (800, .inr (.inl (fun _ => 0))))), (q9, .inl (C 1, (100, .inr (.inl (fun _ => 0))))), (q10, .inl (C 0, (16, .inl (fun _ => 0)))), (q11, .inl (C 1, (40, .inr (.inl (fun _ => 0))))), (q12, .inl (C 1, (40, .inr (.inl (fun _ => 0))))), (q13, .inl (C 0, (40, .inl (fun _ => 0)))), (q14, .inl (C 1, (66, .inr (.inl (fun _ => 0))))), (q15, .inl (C 1, (66, .inr (.inl (fun _ => 0)))))]) rfl ?_
  refine y_putF (pc := 133) (q0 := 0) dX11_init_133 ff_X11_63 rfl rfl (Nat.le_of_ble_eq_true rfl) ?_
  refine y_world (w' := [(h0, .inr (11, [.int 0, .ref q1, .ref q2, .ref q3, .ref q4, .ref q5, .int (-1000000), .int 0, .int 0, .int 0, .int 0, .int 0, .ref q6, .ref q7, .ref q8, .ref q9, .int 0, .ref q10, .int 0, .int 0, .long 0, .long 1, .long 0, .long 0, .long 0, .long 0, .ref q11, .ref q12, .ref q13, .int 0, .long 0, .long 0, .long 0, .ref q14, .ref q15, .null, .null, .null, .long 0, .long 0])), (q1, .inl (C 0, (40, .inl (fun _ => 0)))), (q2, .inl (C 0, (40, .inl (fun _ => 0)))), (q3, .inl (C 0, (40, .inl (fun _ => 0)))), (q4, .inl (C 0, (40, .inl (fun _ => 0)))), (q5, .inl (C 2, (40, .inl (fun _ => 0)))), (q6, .inl (C 0, (8, .inl (fun _ => 0)))), (q7, .inl (C 0, (8, .inl (fun _ => 0)))), (q8, .inl (C 1, (800, .inr (.inl (fun _ => 0))))), (q9, .inl (C 1, (100, .inr (.inl (fun _ => 0))))), (q10, .inl (C 0, (16, .inl (fun _ => 0)))), (q11, .inl (C 1, (40, .inr (.inl (fun _ => 0))))), (q12, .inl (C 1, (40, .inr (.inl (fun _ => 0))))), (q13, .inl (C 0, (40, .inl (fun _ => 0)))), (q14, .inl (C 1, (66, .inr (.inl (fun _ => 0))))), (q15, .inl (C 1, (66, .inr (.inl (fun _ => 0)))))]) rfl ?_
  refine y_aload_n (pc := 136) dX11_init_136 rfl ?_
  refine y_bipush (pc := 137) (v := 66) dX11_init_137 (by decide) ?_
  refine y_newa (pc := 139) (t := 1) (Z := 66) (a0 := (66, .inr (.inl (fun _ => 0)))) dX11_init_139 ac_long rfl rfl (fun _ => rfl) (by decide) (by decide) (by decide) (by show 16 ≤ K; omega) (by show 1450 ≤ N; omega) (fun q16 => ?_)
  refine y_world (w' := [(h0, .inr (11, [.int 0, .ref q1, .ref q2, .ref q3, .ref q4, .ref q5, .int (-1000000), .int 0, .int 0, .int 0, .int 0, .int 0, .ref q6, .ref q7, .ref q8, .ref q9, .int 0, .ref q10, .int 0, .int 0, .long 0, .long 1, .long 0, .long 0, .long 0, .long 0, .ref q11, .ref q12, .ref q13, .int 0, .long 0, .long 0, .long 0, .ref q14, .ref q15, .null, .null, .null, .long 0, .long 0])), (q1, .inl (C 0, (40, .inl (fun _ => 0)))), (q2, .inl (C 0, (40, .inl (fun _ => 0)))), (q3, .inl (C 0, (40, .inl (fun _ => 0)))), (q4, .inl (C 0, (40, .inl (fun _ => 0)))), (q5, .inl (C 2, (40, .inl (fun _ => 0)))), (q6, .inl (C 0, (8, .inl (fun _ => 0)))), (q7, .inl (C 0, (8, .inl (fun _ => 0)))), (q8, .inl (C 1, (800, .inr (.inl (fun _ => 0))))), (q9, .inl (C 1, (100, .inr (.inl (fun _ => 0))))), (q10, .inl (C 0, (16, .inl (fun _ => 0)))), (q11, .inl (C 1, (40, .inr (.inl (fun _ => 0))))), (q12, .inl (C 1, (40, .inr (.inl (fun _ => 0))))), (q13, .inl (C 0, (40, .inl (fun _ => 0)))), (q14, .inl (C 1, (66, .inr (.inl (fun _ => 0))))), (q15, .inl (C 1, (66, .inr (.inl (fun _ => 0))))), (q16, .inl (C 1, (66, .inr (.inl (fun _ => 0)))))]) rfl ?_
  refine y_putF (pc := 141) (q0 := 0) dX11_init_141 ff_X11_66 rfl rfl (Nat.le_of_ble_eq_true rfl) ?_
  refine y_world (w' := [(h0, .inr (11, [.int 0, .ref q1, .ref q2, .ref q3, .ref q4, .ref q5, .int (-1000000), .int 0, .int 0, .int 0, .int 0, .int 0, .ref q6, .ref q7, .ref q8, .ref q9, .int 0, .ref q10, .int 0, .int 0, .long 0, .long 1, .long 0, .long 0, .long 0, .long 0, .ref q11, .ref q12, .ref q13, .int 0, .long 0, .long 0, .long 0, .ref q14, .ref q15, .ref q16, .null, .null, .long 0, .long 0])), (q1, .inl (C 0, (40, .inl (fun _ => 0)))), (q2, .inl (C 0, (40, .inl (fun _ => 0)))), (q3, .inl (C 0, (40, .inl (fun _ => 0)))), (q4, .inl (C 0, (40, .inl (fun _ => 0)))), (q5, .inl (C 2, (40, .inl (fun _ => 0)))), (q6, .inl (C 0, (8, .inl (fun _ => 0)))), (q7, .inl (C 0, (8, .inl (fun _ => 0)))), (q8, .inl (C 1, (800, .inr (.inl (fun _ => 0))))), (q9, .inl (C 1, (100, .inr (.inl (fun _ => 0))))), (q10, .inl (C 0, (16, .inl (fun _ => 0)))), (q11, .inl (C 1, (40, .inr (.inl (fun _ => 0))))), (q12, .inl (C 1, (40, .inr (.inl (fun _ => 0))))), (q13, .inl (C 0, (40, .inl (fun _ => 0)))), (q14, .inl (C 1, (66, .inr (.inl (fun _ => 0))))), (q15, .inl (C 1, (66, .inr (.inl (fun _ => 0))))), (q16, .inl (C 1, (66, .inr (.inl (fun _ => 0)))))]) rfl ?_
  refine y_aload_n (pc := 144) dX11_init_144 rfl ?_
  refine y_bipush (pc := 145) (v := 40) dX11_init_145 (by decide) ?_
  refine y_newa (pc := 147) (t := 0) (Z := 40) (a0 := (40, .inl (fun _ => 0))) dX11_init_147 ac_int rfl rfl (fun _ => rfl) (by decide) (by decide) (by decide) (by show 17 ≤ K; omega) (by show 1490 ≤ N; omega) (fun q17 => ?_)
  refine y_world (w' := [(h0, .inr (11, [.int 0, .ref q1, .ref q2, .ref q3, .ref q4, .ref q5, .int (-1000000), .int 0, .int 0, .int 0, .int 0, .int 0, .ref q6, .ref q7, .ref q8, .ref q9, .int 0, .ref q10, .int 0, .int 0, .long 0, .long 1, .long 0, .long 0, .long 0, .long 0, .ref q11, .ref q12, .ref q13, .int 0, .long 0, .long 0, .long 0, .ref q14, .ref q15, .ref q16, .null, .null, .long 0, .long 0])), (q1, .inl (C 0, (40, .inl (fun _ => 0)))), (q2, .inl (C 0, (40, .inl (fun _ => 0)))), (q3, .inl (C 0, (40, .inl (fun _ => 0)))), (q4, .inl (C 0, (40, .inl (fun _ => 0)))), (q5, .inl (C 2, (40, .inl (fun _ => 0)))), (q6, .inl (C 0, (8, .inl (fun _ => 0)))), (q7, .inl (C 0, (8, .inl (fun _ => 0)))), (q8, .inl (C 1, (800, .inr (.inl (fun _ => 0))))), (q9, .inl (C 1, (100, .inr (.inl (fun _ => 0))))), (q10, .inl (C 0, (16, .inl (fun _ => 0)))), (q11, .inl (C 1, (40, .inr (.inl (fun _ => 0))))), (q12, .inl (C 1, (40, .inr (.inl (fun _ => 0))))), (q13, .inl (C 0, (40, .inl (fun _ => 0)))), (q14, .inl (C 1, (66, .inr (.inl (fun _ => 0))))), (q15, .inl (C 1, (66, .inr (.inl (fun _ => 0))))), (q16, .inl (C 1, (66, .inr (.inl (fun _ => 0))))), (q17, .inl (C 0, (40, .inl (fun _ => 0))))]) rfl ?_
  refine y_putF (pc := 149) (q0 := 0) dX11_init_149 ff_X11_69 rfl rfl (Nat.le_of_ble_eq_true rfl) ?_
  refine y_world (w' := [(h0, .inr (11, [.int 0, .ref q1, .ref q2, .ref q3, .ref q4, .ref q5, .int (-1000000), .int 0, .int 0, .int 0, .int 0, .int 0, .ref q6, .ref q7, .ref q8, .ref q9, .int 0, .ref q10, .int 0, .int 0, .long 0, .long 1, .long 0, .long 0, .long 0, .long 0, .ref q11, .ref q12, .ref q13, .int 0, .long 0, .long 0, .long 0, .ref q14, .ref q15, .ref q16, .ref q17, .null, .long 0, .long 0])), (q1, .inl (C 0, (40, .inl (fun _ => 0)))), (q2, .inl (C 0, (40, .inl (fun _ => 0)))), (q3, .inl (C 0, (40, .inl (fun _ => 0)))), (q4, .inl (C 0, (40, .inl (fun _ => 0)))), (q5, .inl (C 2, (40, .inl (fun _ => 0)))), (q6, .inl (C 0, (8, .inl (fun _ => 0)))), (q7, .inl (C 0, (8, .inl (fun _ => 0)))), (q8, .inl (C 1, (800, .inr (.inl (fun _ => 0))))), (q9, .inl (C 1, (100, .inr (.inl (fun _ => 0))))), (q10, .inl (C 0, (16, .inl (fun _ => 0)))), (q11, .inl (C 1, (40, .inr (.inl (fun _ => 0))))), (q12, .inl (C 1, (40, .inr (.inl (fun _ => 0))))), (q13, .inl (C 0, (40, .inl (fun _ => 0)))), (q14, .inl (C 1, (66, .inr (.inl (fun _ => 0))))), (q15, .inl (C 1, (66, .inr (.inl (fun _ => 0))))), (q16, .inl (C 1, (66, .inr (.inl (fun _ => 0))))), (q17, .inl (C 0, (40, .inl (fun _ => 0))))]) rfl ?_
  refine y_aload_n (pc := 152) dX11_init_152 rfl ?_
  refine y_bipush (pc := 153) (v := 40) dX11_init_153 (by decide) ?_
  refine y_newa (pc := 155) (t := 2) (Z := 40) (a0 := (40, .inl (fun _ => 0))) dX11_init_155 ac_boolean rfl rfl (fun _ => rfl) (by decide) (by decide) (by decide) (by show 18 ≤ K; omega) (by show 1530 ≤ N; omega) (fun q18 => ?_)
  refine y_world (w' := [(h0, .inr (11, [.int 0, .ref q1, .ref q2, .ref q3, .ref q4, .ref q5, .int (-1000000), .int 0, .int 0, .int 0, .int 0, .int 0, .ref q6, .ref q7, .ref q8, .ref q9, .int 0, .ref q10, .int 0, .int 0, .long 0, .long 1, .long 0, .long 0, .long 0, .long 0, .ref q11, .ref q12, .ref q13, .int 0, .long 0, .long 0, .long 0, .ref q14, .ref q15, .ref q16, .ref q17, .null, .long 0, .long 0])), (q1, .inl (C 0, (40, .inl (fun _ => 0)))), (q2, .inl (C 0, (40, .inl (fun _ => 0)))), (q3, .inl (C 0, (40, .inl (fun _ => 0)))), (q4, .inl (C 0, (40, .inl (fun _ => 0)))), (q5, .inl (C 2, (40, .inl (fun _ => 0)))), (q6, .inl (C 0, (8, .inl (fun _ => 0)))), (q7, .inl (C 0, (8, .inl (fun _ => 0)))), (q8, .inl (C 1, (800, .inr (.inl (fun _ => 0))))), (q9, .inl (C 1, (100, .inr (.inl (fun _ => 0))))), (q10, .inl (C 0, (16, .inl (fun _ => 0)))), (q11, .inl (C 1, (40, .inr (.inl (fun _ => 0))))), (q12, .inl (C 1, (40, .inr (.inl (fun _ => 0))))), (q13, .inl (C 0, (40, .inl (fun _ => 0)))), (q14, .inl (C 1, (66, .inr (.inl (fun _ => 0))))), (q15, .inl (C 1, (66, .inr (.inl (fun _ => 0))))), (q16, .inl (C 1, (66, .inr (.inl (fun _ => 0))))), (q17, .inl (C 0, (40, .inl (fun _ => 0)))), (q18, .inl (C 2, (40, .inl (fun _ => 0))))]) rfl ?_
  refine y_putF (pc := 157) (q0 := 0) dX11_init_157 ff_X11_72 rfl rfl (Nat.le_of_ble_eq_true rfl) ?_
  refine y_world (w' := [(h0, .inr (11, [.int 0, .ref q1, .ref q2, .ref q3, .ref q4, .ref q5, .int (-1000000), .int 0, .int 0, .int 0, .int 0, .int 0, .ref q6, .ref q7, .ref q8, .ref q9, .int 0, .ref q10, .int 0, .int 0, .long 0, .long 1, .long 0, .long 0, .long 0, .long 0, .ref q11, .ref q12, .ref q13, .int 0, .long 0, .long 0, .long 0, .ref q14, .ref q15, .ref q16, .ref q17, .ref q18, .long 0, .long 0])), (q1, .inl (C 0, (40, .inl (fun _ => 0)))), (q2, .inl (C 0, (40, .inl (fun _ => 0)))), (q3, .inl (C 0, (40, .inl (fun _ => 0)))), (q4, .inl (C 0, (40, .inl (fun _ => 0)))), (q5, .inl (C 2, (40, .inl (fun _ => 0)))), (q6, .inl (C 0, (8, .inl (fun _ => 0)))), (q7, .inl (C 0, (8, .inl (fun _ => 0)))), (q8, .inl (C 1, (800, .inr (.inl (fun _ => 0))))), (q9, .inl (C 1, (100, .inr (.inl (fun _ => 0))))), (q10, .inl (C 0, (16, .inl (fun _ => 0)))), (q11, .inl (C 1, (40, .inr (.inl (fun _ => 0))))), (q12, .inl (C 1, (40, .inr (.inl (fun _ => 0))))), (q13, .inl (C 0, (40, .inl (fun _ => 0)))), (q14, .inl (C 1, (66, .inr (.inl (fun _ => 0))))), (q15, .inl (C 1, (66, .inr (.inl (fun _ => 0))))), (q16, .inl (C 1, (66, .inr (.inl (fun _ => 0))))), (q17, .inl (C 0, (40, .inl (fun _ => 0)))), (q18, .inl (C 2, (40, .inl (fun _ => 0))))]) rfl ?_
  exact y_stop (h q1 q2 q3 q4 q5 q6 q7 q8 q9 q10 q11 q12 q13 q14 q15 q16 q17 q18)
