section
/-- a private method of a class that the tables say can be made, by its rows of tables_1 -/
def lw_okq (q : MethodName × Nat) : Prop := (q.1.cls ≠ "java/lang/invoke/MethodHandle" ∧ q.1.cls ≠ "java/lang/invoke/VarHandle") ∧ Cond.instantiable q.1.cls q.2 ∈ tables_1 ∧ Cond.privateMethod q.1 ∈ tables_1 ∧ Cond.instanceMethod q.1 ∈ tables_1
theorem lw_p0 : lw_okq (⟨"FurrowField", "found", "(I)I"⟩, 13) := ⟨⟨by decide +kernel, by decide +kernel⟩, List.mem_of_getElem? (i := 16) (by decide +kernel), List.mem_of_getElem? (i := 369) (by decide +kernel), List.mem_of_getElem? (i := 370) (by decide +kernel)⟩
theorem lw_p1 : lw_okq (⟨"FurrowField", "done", "(I)I"⟩, 13) := ⟨⟨by decide +kernel, by decide +kernel⟩, List.mem_of_getElem? (i := 16) (by decide +kernel), List.mem_of_getElem? (i := 378) (by decide +kernel), List.mem_of_getElem? (i := 379) (by decide +kernel)⟩
theorem lw_p2 : lw_okq (⟨"FurrowField", "keepForUndo", "(I)V"⟩, 13) := ⟨⟨by decide +kernel, by decide +kernel⟩, List.mem_of_getElem? (i := 16) (by decide +kernel), List.mem_of_getElem? (i := 418) (by decide +kernel), List.mem_of_getElem? (i := 419) (by decide +kernel)⟩
theorem lw_p3 : lw_okq (⟨"FurrowField$Plant", "begun", "(ILFurrowField$Trace;I)I"⟩, 8) := ⟨⟨by decide +kernel, by decide +kernel⟩, List.mem_of_getElem? (i := 50) (by decide +kernel), List.mem_of_getElem? (i := 434) (by decide +kernel), List.mem_of_getElem? (i := 435) (by decide +kernel)⟩
theorem lw_p4 : lw_okq (⟨"FurrowField$Plant", "gives", "(ILFurrowField$Trace;I)I"⟩, 8) := ⟨⟨by decide +kernel, by decide +kernel⟩, List.mem_of_getElem? (i := 50) (by decide +kernel), List.mem_of_getElem? (i := 441) (by decide +kernel), List.mem_of_getElem? (i := 442) (by decide +kernel)⟩
theorem lw_p5 : lw_okq (⟨"FurrowField", "forget", "()V"⟩, 13) := ⟨⟨by decide +kernel, by decide +kernel⟩, List.mem_of_getElem? (i := 16) (by decide +kernel), List.mem_of_getElem? (i := 452) (by decide +kernel), List.mem_of_getElem? (i := 453) (by decide +kernel)⟩
theorem lw_p6 : lw_okq (⟨"FurrowField", "isGiven", "(I)Z"⟩, 13) := ⟨⟨by decide +kernel, by decide +kernel⟩, List.mem_of_getElem? (i := 16) (by decide +kernel), List.mem_of_getElem? (i := 460) (by decide +kernel), List.mem_of_getElem? (i := 461) (by decide +kernel)⟩
theorem lw_p7 : lw_okq (⟨"FurrowField", "gathered", "()LFurrowField$Stand;"⟩, 13) := ⟨⟨by decide +kernel, by decide +kernel⟩, List.mem_of_getElem? (i := 16) (by decide +kernel), List.mem_of_getElem? (i := 468) (by decide +kernel), List.mem_of_getElem? (i := 469) (by decide +kernel)⟩
theorem lw_p8 : lw_okq (⟨"FurrowField$Stand", "add", "(ILFurrowField$Plant;)V"⟩, 8) := ⟨⟨by decide +kernel, by decide +kernel⟩, List.mem_of_getElem? (i := 152) (by decide +kernel), List.mem_of_getElem? (i := 476) (by decide +kernel), List.mem_of_getElem? (i := 477) (by decide +kernel)⟩
theorem lw_p9 : lw_okq (⟨"FurrowField", "peeled", "()LFurrowField$Layers;"⟩, 13) := ⟨⟨by decide +kernel, by decide +kernel⟩, List.mem_of_getElem? (i := 16) (by decide +kernel), List.mem_of_getElem? (i := 489) (by decide +kernel), List.mem_of_getElem? (i := 490) (by decide +kernel)⟩
theorem lw_p10 : lw_okq (⟨"FurrowField$Layers", "peelOne", "(LFurrowField$Stand;I)I"⟩, 3) := ⟨⟨by decide +kernel, by decide +kernel⟩, List.mem_of_getElem? (i := 249) (by decide +kernel), List.mem_of_getElem? (i := 497) (by decide +kernel), List.mem_of_getElem? (i := 498) (by decide +kernel)⟩
theorem lw_p11 : lw_okq (⟨"FurrowField$Layers", "isOnEdge", "(LFurrowField$Stand;II)Z"⟩, 3) := ⟨⟨by decide +kernel, by decide +kernel⟩, List.mem_of_getElem? (i := 249) (by decide +kernel), List.mem_of_getElem? (i := 501) (by decide +kernel), List.mem_of_getElem? (i := 502) (by decide +kernel)⟩
theorem lw_p12 : lw_okq (⟨"FurrowField$Layers", "isIn", "(II)Z"⟩, 3) := ⟨⟨by decide +kernel, by decide +kernel⟩, List.mem_of_getElem? (i := 249) (by decide +kernel), List.mem_of_getElem? (i := 505) (by decide +kernel), List.mem_of_getElem? (i := 506) (by decide +kernel)⟩
theorem lw_p13 : lw_okq (⟨"FurrowField$Layers", "isOneSided", "(LFurrowField$Stand;III)Z"⟩, 3) := ⟨⟨by decide +kernel, by decide +kernel⟩, List.mem_of_getElem? (i := 249) (by decide +kernel), List.mem_of_getElem? (i := 513) (by decide +kernel), List.mem_of_getElem? (i := 514) (by decide +kernel)⟩
theorem lw_p14 : lw_okq (⟨"FurrowField$Stand", "row", "(I)[I"⟩, 8) := ⟨⟨by decide +kernel, by decide +kernel⟩, List.mem_of_getElem? (i := 152) (by decide +kernel), List.mem_of_getElem? (i := 591) (by decide +kernel), List.mem_of_getElem? (i := 592) (by decide +kernel)⟩
theorem lw_p15 : lw_okq (⟨"FurrowField", "joined", "()LFurrowField$Lines;"⟩, 13) := ⟨⟨by decide +kernel, by decide +kernel⟩, List.mem_of_getElem? (i := 16) (by decide +kernel), List.mem_of_getElem? (i := 611) (by decide +kernel), List.mem_of_getElem? (i := 612) (by decide +kernel)⟩
def lw_privs_1 : List (MethodName × Nat) := [(⟨"FurrowField", "found", "(I)I"⟩, 13), (⟨"FurrowField", "done", "(I)I"⟩, 13), (⟨"FurrowField", "keepForUndo", "(I)V"⟩, 13), (⟨"FurrowField$Plant", "begun", "(ILFurrowField$Trace;I)I"⟩, 8), (⟨"FurrowField$Plant", "gives", "(ILFurrowField$Trace;I)I"⟩, 8), (⟨"FurrowField", "forget", "()V"⟩, 13), (⟨"FurrowField", "isGiven", "(I)Z"⟩, 13), (⟨"FurrowField", "gathered", "()LFurrowField$Stand;"⟩, 13), (⟨"FurrowField$Stand", "add", "(ILFurrowField$Plant;)V"⟩, 8), (⟨"FurrowField", "peeled", "()LFurrowField$Layers;"⟩, 13), (⟨"FurrowField$Layers", "peelOne", "(LFurrowField$Stand;I)I"⟩, 3), (⟨"FurrowField$Layers", "isOnEdge", "(LFurrowField$Stand;II)Z"⟩, 3), (⟨"FurrowField$Layers", "isIn", "(II)Z"⟩, 3), (⟨"FurrowField$Layers", "isOneSided", "(LFurrowField$Stand;III)Z"⟩, 3), (⟨"FurrowField$Stand", "row", "(I)[I"⟩, 8), (⟨"FurrowField", "joined", "()LFurrowField$Lines;"⟩, 13)]
theorem lw_r1 : ∀ q ∈ lw_privs_1, lw_okq q := List.forall_mem_cons.mpr ⟨lw_p0, List.forall_mem_cons.mpr ⟨lw_p1, List.forall_mem_cons.mpr ⟨lw_p2, List.forall_mem_cons.mpr ⟨lw_p3, List.forall_mem_cons.mpr ⟨lw_p4, List.forall_mem_cons.mpr ⟨lw_p5, List.forall_mem_cons.mpr ⟨lw_p6, List.forall_mem_cons.mpr ⟨lw_p7, List.forall_mem_cons.mpr ⟨lw_p8, List.forall_mem_cons.mpr ⟨lw_p9, List.forall_mem_cons.mpr ⟨lw_p10, List.forall_mem_cons.mpr ⟨lw_p11, List.forall_mem_cons.mpr ⟨lw_p12, List.forall_mem_cons.mpr ⟨lw_p13, List.forall_mem_cons.mpr ⟨lw_p14, List.forall_mem_cons.mpr ⟨lw_p15, fun _ h => absurd h List.not_mem_nil⟩⟩⟩⟩⟩⟩⟩⟩⟩⟩⟩⟩⟩⟩⟩⟩
theorem lw_p16 : lw_okq (⟨"FurrowField$Lines", "isFirstPair", "(LFurrowField$Stand;II)Z"⟩, 11) := ⟨⟨by decide +kernel, by decide +kernel⟩, List.mem_of_getElem? (i := 196) (by decide +kernel), List.mem_of_getElem? (i := 620) (by decide +kernel), List.mem_of_getElem? (i := 621) (by decide +kernel)⟩
theorem lw_p17 : lw_okq (⟨"FurrowField$Lines", "add", "(LFurrowField$Stand;II)V"⟩, 11) := ⟨⟨by decide +kernel, by decide +kernel⟩, List.mem_of_getElem? (i := 196) (by decide +kernel), List.mem_of_getElem? (i := 625) (by decide +kernel), List.mem_of_getElem? (i := 626) (by decide +kernel)⟩
theorem lw_p18 : lw_okq (⟨"FurrowField$Lines", "plantsOn", "(LFurrowField$Stand;II)I"⟩, 11) := ⟨⟨by decide +kernel, by decide +kernel⟩, List.mem_of_getElem? (i := 196) (by decide +kernel), List.mem_of_getElem? (i := 630) (by decide +kernel), List.mem_of_getElem? (i := 631) (by decide +kernel)⟩
theorem lw_p19 : lw_okq (⟨"FurrowField$Lines", "findFurrows", "(LFurrowField$Stand;)V"⟩, 11) := ⟨⟨by decide +kernel, by decide +kernel⟩, List.mem_of_getElem? (i := 196) (by decide +kernel), List.mem_of_getElem? (i := 642) (by decide +kernel), List.mem_of_getElem? (i := 643) (by decide +kernel)⟩
theorem lw_p20 : lw_okq (⟨"FurrowField$Depths", "isHere", "(I)Z"⟩, 7) := ⟨⟨by decide +kernel, by decide +kernel⟩, List.mem_of_getElem? (i := 267) (by decide +kernel), List.mem_of_getElem? (i := 665) (by decide +kernel), List.mem_of_getElem? (i := 666) (by decide +kernel)⟩
theorem lw_p21 : lw_okq (⟨"FurrowField$Depths", "leastBeside", "(LFurrowField$Stand;I)I"⟩, 7) := ⟨⟨by decide +kernel, by decide +kernel⟩, List.mem_of_getElem? (i := 267) (by decide +kernel), List.mem_of_getElem? (i := 673) (by decide +kernel), List.mem_of_getElem? (i := 674) (by decide +kernel)⟩
theorem lw_p22 : lw_okq (⟨"FurrowField$Depths", "consider", "(LFurrowField$Stand;JJJ)V"⟩, 7) := ⟨⟨by decide +kernel, by decide +kernel⟩, List.mem_of_getElem? (i := 267) (by decide +kernel), List.mem_of_getElem? (i := 688) (by decide +kernel), List.mem_of_getElem? (i := 689) (by decide +kernel)⟩
theorem lw_p23 : lw_okq (⟨"FurrowField$Depths", "isAhead", "(JJJ)Z"⟩, 7) := ⟨⟨by decide +kernel, by decide +kernel⟩, List.mem_of_getElem? (i := 267) (by decide +kernel), List.mem_of_getElem? (i := 692) (by decide +kernel), List.mem_of_getElem? (i := 693) (by decide +kernel)⟩
theorem lw_p24 : lw_okq (⟨"FurrowField$Depths", "considerCrossing", "(LFurrowField$Stand;LFurrowField$Lines;II)V"⟩, 7) := ⟨⟨by decide +kernel, by decide +kernel⟩, List.mem_of_getElem? (i := 267) (by decide +kernel), List.mem_of_getElem? (i := 697) (by decide +kernel), List.mem_of_getElem? (i := 698) (by decide +kernel)⟩
theorem lw_p25 : lw_okq (⟨"FurrowField$Strips", "consider", "(LFurrowField$Stand;II)V"⟩, 4) := ⟨⟨by decide +kernel, by decide +kernel⟩, List.mem_of_getElem? (i := 296) (by decide +kernel), List.mem_of_getElem? (i := 729) (by decide +kernel), List.mem_of_getElem? (i := 730) (by decide +kernel)⟩
theorem lw_p26 : lw_okq (⟨"FurrowField$Strips", "putInOrder", "(II)V"⟩, 4) := ⟨⟨by decide +kernel, by decide +kernel⟩, List.mem_of_getElem? (i := 296) (by decide +kernel), List.mem_of_getElem? (i := 733) (by decide +kernel), List.mem_of_getElem? (i := 734) (by decide +kernel)⟩
theorem lw_p27 : lw_okq (⟨"FurrowField", "bedsThere", "()I"⟩, 13) := ⟨⟨by decide +kernel, by decide +kernel⟩, List.mem_of_getElem? (i := 16) (by decide +kernel), List.mem_of_getElem? (i := 745) (by decide +kernel), List.mem_of_getElem? (i := 746) (by decide +kernel)⟩
theorem lw_p28 : lw_okq (⟨"FurrowFieldModel", "finds", "(I)I"⟩, 40) := ⟨⟨by decide +kernel, by decide +kernel⟩, List.mem_of_getElem? (i := 754) (by decide +kernel), List.mem_of_getElem? (i := 896) (by decide +kernel), List.mem_of_getElem? (i := 897) (by decide +kernel)⟩
theorem lw_p29 : lw_okq (⟨"FurrowFieldModel", "well", "(I)I"⟩, 40) := ⟨⟨by decide +kernel, by decide +kernel⟩, List.mem_of_getElem? (i := 754) (by decide +kernel), List.mem_of_getElem? (i := 901) (by decide +kernel), List.mem_of_getElem? (i := 902) (by decide +kernel)⟩
theorem lw_p30 : lw_okq (⟨"FurrowFieldModel", "keep", "(IZ)V"⟩, 40) := ⟨⟨by decide +kernel, by decide +kernel⟩, List.mem_of_getElem? (i := 754) (by decide +kernel), List.mem_of_getElem? (i := 926) (by decide +kernel), List.mem_of_getElem? (i := 927) (by decide +kernel)⟩
theorem lw_p31 : lw_okq (⟨"FurrowFieldModel", "isPlant", "(I)Z"⟩, 40) := ⟨⟨by decide +kernel, by decide +kernel⟩, List.mem_of_getElem? (i := 754) (by decide +kernel), List.mem_of_getElem? (i := 934) (by decide +kernel), List.mem_of_getElem? (i := 935) (by decide +kernel)⟩
def lw_privs_2 : List (MethodName × Nat) := [(⟨"FurrowField$Lines", "isFirstPair", "(LFurrowField$Stand;II)Z"⟩, 11), (⟨"FurrowField$Lines", "add", "(LFurrowField$Stand;II)V"⟩, 11), (⟨"FurrowField$Lines", "plantsOn", "(LFurrowField$Stand;II)I"⟩, 11), (⟨"FurrowField$Lines", "findFurrows", "(LFurrowField$Stand;)V"⟩, 11), (⟨"FurrowField$Depths", "isHere", "(I)Z"⟩, 7), (⟨"FurrowField$Depths", "leastBeside", "(LFurrowField$Stand;I)I"⟩, 7), (⟨"FurrowField$Depths", "consider", "(LFurrowField$Stand;JJJ)V"⟩, 7), (⟨"FurrowField$Depths", "isAhead", "(JJJ)Z"⟩, 7), (⟨"FurrowField$Depths", "considerCrossing", "(LFurrowField$Stand;LFurrowField$Lines;II)V"⟩, 7), (⟨"FurrowField$Strips", "consider", "(LFurrowField$Stand;II)V"⟩, 4), (⟨"FurrowField$Strips", "putInOrder", "(II)V"⟩, 4), (⟨"FurrowField", "bedsThere", "()I"⟩, 13), (⟨"FurrowFieldModel", "finds", "(I)I"⟩, 40), (⟨"FurrowFieldModel", "well", "(I)I"⟩, 40), (⟨"FurrowFieldModel", "keep", "(IZ)V"⟩, 40), (⟨"FurrowFieldModel", "isPlant", "(I)Z"⟩, 40)]
theorem lw_r2 : ∀ q ∈ lw_privs_2, lw_okq q := List.forall_mem_cons.mpr ⟨lw_p16, List.forall_mem_cons.mpr ⟨lw_p17, List.forall_mem_cons.mpr ⟨lw_p18, List.forall_mem_cons.mpr ⟨lw_p19, List.forall_mem_cons.mpr ⟨lw_p20, List.forall_mem_cons.mpr ⟨lw_p21, List.forall_mem_cons.mpr ⟨lw_p22, List.forall_mem_cons.mpr ⟨lw_p23, List.forall_mem_cons.mpr ⟨lw_p24, List.forall_mem_cons.mpr ⟨lw_p25, List.forall_mem_cons.mpr ⟨lw_p26, List.forall_mem_cons.mpr ⟨lw_p27, List.forall_mem_cons.mpr ⟨lw_p28, List.forall_mem_cons.mpr ⟨lw_p29, List.forall_mem_cons.mpr ⟨lw_p30, List.forall_mem_cons.mpr ⟨lw_p31, fun _ h => absurd h List.not_mem_nil⟩⟩⟩⟩⟩⟩⟩⟩⟩⟩⟩⟩⟩⟩⟩⟩
theorem lw_p32 : lw_okq (⟨"FurrowFieldModel", "there", "()I"⟩, 40) := ⟨⟨by decide +kernel, by decide +kernel⟩, List.mem_of_getElem? (i := 754) (by decide +kernel), List.mem_of_getElem? (i := 942) (by decide +kernel), List.mem_of_getElem? (i := 943) (by decide +kernel)⟩
theorem lw_p33 : lw_okq (⟨"FurrowFieldModel", "findLayers", "()I"⟩, 40) := ⟨⟨by decide +kernel, by decide +kernel⟩, List.mem_of_getElem? (i := 754) (by decide +kernel), List.mem_of_getElem? (i := 955) (by decide +kernel), List.mem_of_getElem? (i := 956) (by decide +kernel)⟩
theorem lw_p34 : lw_okq (⟨"FurrowFieldModel", "isOnEdge", "(I)Z"⟩, 40) := ⟨⟨by decide +kernel, by decide +kernel⟩, List.mem_of_getElem? (i := 754) (by decide +kernel), List.mem_of_getElem? (i := 959) (by decide +kernel), List.mem_of_getElem? (i := 960) (by decide +kernel)⟩
theorem lw_p35 : lw_okq (⟨"FurrowFieldModel", "isApart", "(II)Z"⟩, 40) := ⟨⟨by decide +kernel, by decide +kernel⟩, List.mem_of_getElem? (i := 754) (by decide +kernel), List.mem_of_getElem? (i := 963) (by decide +kernel), List.mem_of_getElem? (i := 964) (by decide +kernel)⟩
theorem lw_p36 : lw_okq (⟨"FurrowFieldModel", "look", "(II)V"⟩, 40) := ⟨⟨by decide +kernel, by decide +kernel⟩, List.mem_of_getElem? (i := 754) (by decide +kernel), List.mem_of_getElem? (i := 967) (by decide +kernel), List.mem_of_getElem? (i := 968) (by decide +kernel)⟩
theorem lw_p37 : lw_okq (⟨"FurrowFieldModel", "at", "(I)J"⟩, 40) := ⟨⟨by decide +kernel, by decide +kernel⟩, List.mem_of_getElem? (i := 754) (by decide +kernel), List.mem_of_getElem? (i := 974) (by decide +kernel), List.mem_of_getElem? (i := 975) (by decide +kernel)⟩
theorem lw_p38 : lw_okq (⟨"FurrowFieldModel", "isOf", "(II)Z"⟩, 40) := ⟨⟨by decide +kernel, by decide +kernel⟩, List.mem_of_getElem? (i := 754) (by decide +kernel), List.mem_of_getElem? (i := 982) (by decide +kernel), List.mem_of_getElem? (i := 983) (by decide +kernel)⟩
theorem lw_p39 : lw_okq (⟨"FurrowFieldModel", "asked", "(II)I"⟩, 40) := ⟨⟨by decide +kernel, by decide +kernel⟩, List.mem_of_getElem? (i := 754) (by decide +kernel), List.mem_of_getElem? (i := 990) (by decide +kernel), List.mem_of_getElem? (i := 991) (by decide +kernel)⟩
theorem lw_p40 : lw_okq (⟨"FurrowFieldModel", "red", "(I)I"⟩, 40) := ⟨⟨by decide +kernel, by decide +kernel⟩, List.mem_of_getElem? (i := 754) (by decide +kernel), List.mem_of_getElem? (i := 994) (by decide +kernel), List.mem_of_getElem? (i := 995) (by decide +kernel)⟩
theorem lw_p41 : lw_okq (⟨"FurrowFieldModel", "begins", "(I)V"⟩, 40) := ⟨⟨by decide +kernel, by decide +kernel⟩, List.mem_of_getElem? (i := 754) (by decide +kernel), List.mem_of_getElem? (i := 998) (by decide +kernel), List.mem_of_getElem? (i := 999) (by decide +kernel)⟩
theorem lw_p42 : lw_okq (⟨"FurrowFieldModel", "blue", "(I)I"⟩, 40) := ⟨⟨by decide +kernel, by decide +kernel⟩, List.mem_of_getElem? (i := 754) (by decide +kernel), List.mem_of_getElem? (i := 1002) (by decide +kernel), List.mem_of_getElem? (i := 1003) (by decide +kernel)⟩
theorem lw_p43 : lw_okq (⟨"FurrowFieldModel", "all", "(I)I"⟩, 40) := ⟨⟨by decide +kernel, by decide +kernel⟩, List.mem_of_getElem? (i := 754) (by decide +kernel), List.mem_of_getElem? (i := 1006) (by decide +kernel), List.mem_of_getElem? (i := 1007) (by decide +kernel)⟩
theorem lw_p44 : lw_okq (⟨"FurrowFieldModel", "lentAll", "(I)I"⟩, 40) := ⟨⟨by decide +kernel, by decide +kernel⟩, List.mem_of_getElem? (i := 754) (by decide +kernel), List.mem_of_getElem? (i := 1010) (by decide +kernel), List.mem_of_getElem? (i := 1011) (by decide +kernel)⟩
theorem lw_p45 : lw_okq (⟨"FurrowFieldModel", "worth", "(I)I"⟩, 40) := ⟨⟨by decide +kernel, by decide +kernel⟩, List.mem_of_getElem? (i := 754) (by decide +kernel), List.mem_of_getElem? (i := 1014) (by decide +kernel), List.mem_of_getElem? (i := 1015) (by decide +kernel)⟩
theorem lw_p46 : lw_okq (⟨"FurrowFieldModel", "putLine", "()V"⟩, 40) := ⟨⟨by decide +kernel, by decide +kernel⟩, List.mem_of_getElem? (i := 754) (by decide +kernel), List.mem_of_getElem? (i := 1037) (by decide +kernel), List.mem_of_getElem? (i := 1038) (by decide +kernel)⟩
theorem lw_p47 : lw_okq (⟨"FurrowFieldModel", "lookAtLine", "()V"⟩, 40) := ⟨⟨by decide +kernel, by decide +kernel⟩, List.mem_of_getElem? (i := 754) (by decide +kernel), List.mem_of_getElem? (i := 1049) (by decide +kernel), List.mem_of_getElem? (i := 1050) (by decide +kernel)⟩
def lw_privs_3 : List (MethodName × Nat) := [(⟨"FurrowFieldModel", "there", "()I"⟩, 40), (⟨"FurrowFieldModel", "findLayers", "()I"⟩, 40), (⟨"FurrowFieldModel", "isOnEdge", "(I)Z"⟩, 40), (⟨"FurrowFieldModel", "isApart", "(II)Z"⟩, 40), (⟨"FurrowFieldModel", "look", "(II)V"⟩, 40), (⟨"FurrowFieldModel", "at", "(I)J"⟩, 40), (⟨"FurrowFieldModel", "isOf", "(II)Z"⟩, 40), (⟨"FurrowFieldModel", "asked", "(II)I"⟩, 40), (⟨"FurrowFieldModel", "red", "(I)I"⟩, 40), (⟨"FurrowFieldModel", "begins", "(I)V"⟩, 40), (⟨"FurrowFieldModel", "blue", "(I)I"⟩, 40), (⟨"FurrowFieldModel", "all", "(I)I"⟩, 40), (⟨"FurrowFieldModel", "lentAll", "(I)I"⟩, 40), (⟨"FurrowFieldModel", "worth", "(I)I"⟩, 40), (⟨"FurrowFieldModel", "putLine", "()V"⟩, 40), (⟨"FurrowFieldModel", "lookAtLine", "()V"⟩, 40)]
theorem lw_r3 : ∀ q ∈ lw_privs_3, lw_okq q := List.forall_mem_cons.mpr ⟨lw_p32, List.forall_mem_cons.mpr ⟨lw_p33, List.forall_mem_cons.mpr ⟨lw_p34, List.forall_mem_cons.mpr ⟨lw_p35, List.forall_mem_cons.mpr ⟨lw_p36, List.forall_mem_cons.mpr ⟨lw_p37, List.forall_mem_cons.mpr ⟨lw_p38, List.forall_mem_cons.mpr ⟨lw_p39, List.forall_mem_cons.mpr ⟨lw_p40, List.forall_mem_cons.mpr ⟨lw_p41, List.forall_mem_cons.mpr ⟨lw_p42, List.forall_mem_cons.mpr ⟨lw_p43, List.forall_mem_cons.mpr ⟨lw_p44, List.forall_mem_cons.mpr ⟨lw_p45, List.forall_mem_cons.mpr ⟨lw_p46, List.forall_mem_cons.mpr ⟨lw_p47, fun _ h => absurd h List.not_mem_nil⟩⟩⟩⟩⟩⟩⟩⟩⟩⟩⟩⟩⟩⟩⟩⟩
theorem lw_p48 : lw_okq (⟨"FurrowFieldModel", "sumOf", "(II)I"⟩, 40) := ⟨⟨by decide +kernel, by decide +kernel⟩, List.mem_of_getElem? (i := 754) (by decide +kernel), List.mem_of_getElem? (i := 1053) (by decide +kernel), List.mem_of_getElem? (i := 1054) (by decide +kernel)⟩
theorem lw_p49 : lw_okq (⟨"FurrowFieldModel", "isHalved", "(I)Z"⟩, 40) := ⟨⟨by decide +kernel, by decide +kernel⟩, List.mem_of_getElem? (i := 754) (by decide +kernel), List.mem_of_getElem? (i := 1061) (by decide +kernel), List.mem_of_getElem? (i := 1062) (by decide +kernel)⟩
theorem lw_p50 : lw_okq (⟨"FurrowFieldModel", "findFurrow", "(I)I"⟩, 40) := ⟨⟨by decide +kernel, by decide +kernel⟩, List.mem_of_getElem? (i := 754) (by decide +kernel), List.mem_of_getElem? (i := 1069) (by decide +kernel), List.mem_of_getElem? (i := 1070) (by decide +kernel)⟩
theorem lw_p51 : lw_okq (⟨"FurrowFieldModel", "isFirst", "(II)Z"⟩, 40) := ⟨⟨by decide +kernel, by decide +kernel⟩, List.mem_of_getElem? (i := 754) (by decide +kernel), List.mem_of_getElem? (i := 1073) (by decide +kernel), List.mem_of_getElem? (i := 1074) (by decide +kernel)⟩
theorem lw_p52 : lw_okq (⟨"FurrowFieldModel", "firstThere", "()I"⟩, 40) := ⟨⟨by decide +kernel, by decide +kernel⟩, List.mem_of_getElem? (i := 754) (by decide +kernel), List.mem_of_getElem? (i := 1077) (by decide +kernel), List.mem_of_getElem? (i := 1078) (by decide +kernel)⟩
theorem lw_p53 : lw_okq (⟨"FurrowFieldModel", "depthOf", "(JJJ)I"⟩, 40) := ⟨⟨by decide +kernel, by decide +kernel⟩, List.mem_of_getElem? (i := 754) (by decide +kernel), List.mem_of_getElem? (i := 1090) (by decide +kernel), List.mem_of_getElem? (i := 1091) (by decide +kernel)⟩
theorem lw_p54 : lw_okq (⟨"FurrowFieldModel", "sumBeyond", "(IJJJJ)I"⟩, 40) := ⟨⟨by decide +kernel, by decide +kernel⟩, List.mem_of_getElem? (i := 754) (by decide +kernel), List.mem_of_getElem? (i := 1095) (by decide +kernel), List.mem_of_getElem? (i := 1096) (by decide +kernel)⟩
theorem lw_p55 : lw_okq (⟨"FurrowFieldModel", "offer", "(JJJ)V"⟩, 40) := ⟨⟨by decide +kernel, by decide +kernel⟩, List.mem_of_getElem? (i := 754) (by decide +kernel), List.mem_of_getElem? (i := 1105) (by decide +kernel), List.mem_of_getElem? (i := 1106) (by decide +kernel)⟩
theorem lw_p56 : lw_okq (⟨"FurrowFieldModel", "offerGap", "(JJ)V"⟩, 40) := ⟨⟨by decide +kernel, by decide +kernel⟩, List.mem_of_getElem? (i := 754) (by decide +kernel), List.mem_of_getElem? (i := 1121) (by decide +kernel), List.mem_of_getElem? (i := 1122) (by decide +kernel)⟩
def lw_privs_4 : List (MethodName × Nat) := [(⟨"FurrowFieldModel", "sumOf", "(II)I"⟩, 40), (⟨"FurrowFieldModel", "isHalved", "(I)Z"⟩, 40), (⟨"FurrowFieldModel", "findFurrow", "(I)I"⟩, 40), (⟨"FurrowFieldModel", "isFirst", "(II)Z"⟩, 40), (⟨"FurrowFieldModel", "firstThere", "()I"⟩, 40), (⟨"FurrowFieldModel", "depthOf", "(JJJ)I"⟩, 40), (⟨"FurrowFieldModel", "sumBeyond", "(IJJJJ)I"⟩, 40), (⟨"FurrowFieldModel", "offer", "(JJJ)V"⟩, 40), (⟨"FurrowFieldModel", "offerGap", "(JJ)V"⟩, 40)]
theorem lw_r4 : ∀ q ∈ lw_privs_4, lw_okq q := List.forall_mem_cons.mpr ⟨lw_p48, List.forall_mem_cons.mpr ⟨lw_p49, List.forall_mem_cons.mpr ⟨lw_p50, List.forall_mem_cons.mpr ⟨lw_p51, List.forall_mem_cons.mpr ⟨lw_p52, List.forall_mem_cons.mpr ⟨lw_p53, List.forall_mem_cons.mpr ⟨lw_p54, List.forall_mem_cons.mpr ⟨lw_p55, List.forall_mem_cons.mpr ⟨lw_p56, fun _ h => absurd h List.not_mem_nil⟩⟩⟩⟩⟩⟩⟩⟩⟩
def lw_privs : List (MethodName × Nat) := lw_privs_1 ++ (lw_privs_2 ++ (lw_privs_3 ++ (lw_privs_4)))
def lw_tbl : List Cond := k2_sels lw_privs ++ tables_1
theorem lw_privs_ok : ∀ q ∈ lw_privs, lw_okq q := by
  show ∀ q ∈ lw_privs_1 ++ (lw_privs_2 ++ (lw_privs_3 ++ (lw_privs_4))), lw_okq q
  exact List.forall_mem_append.mpr ⟨lw_r1, List.forall_mem_append.mpr ⟨lw_r2, List.forall_mem_append.mpr ⟨lw_r3, lw_r4⟩⟩⟩
end
section
def RX0 : String := "FurrowField$Bed"
def TX0 : u_T := fun k => match k with
  | 0 => ("FurrowField$Bed", "items", "[J", true)
  | 1 => ("FurrowField$Bed", "there", "Z", false)
  | 2 => ("FurrowField$Bed", "lane", "I", false)
  | _ => ("FurrowField$Bed", "size", "I", false)
def tyX0 : Nat → FieldType := fun k => match k with
  | 0 => .array .long
  | 1 => .boolean
  | 2 => .int
  | _ => .int
theorem nmX0 : ∀ a, a < 4 → ∀ b, b < 4 → a ≠ b → (TX0 a).2.1 ≠ (TX0 b).2.1 := by decide +kernel
theorem tyX0_ok : ∀ k, k < 4 → parseFieldDescriptor (TX0 k).2.2.1 = some (tyX0 k) := by decide +kernel
abbrev cX0_init : ByteArray := prog_2_method_1_code
def yX0_init : MethodName := ⟨RX0, "<init>", "()V"⟩
abbrev cX0_lay : ByteArray := prog_2_method_2_code
def yX0_lay : MethodName := ⟨RX0, "lay", "(II)V"⟩
abbrev cX0_has : ByteArray := prog_2_method_3_code
def yX0_has : MethodName := ⟨RX0, "has", "(II)Z"⟩
abbrev cX0_narrowed : ByteArray := prog_2_method_4_code
def yX0_narrowed : MethodName := ⟨RX0, "narrowed", "(J)J"⟩
def RX1 : String := "FurrowField$Change"
def TX1 : u_T := fun k => match k with
  | 0 => ("FurrowField$Change", "before", "LFurrowField$Plant;", true)
  | 1 => ("FurrowField$Change", "open", "Z", false)
  | 2 => ("FurrowField$Change", "number", "I", false)
  | _ => ("FurrowField$Change", "given", "I", false)
def tyX1 : Nat → FieldType := fun k => match k with
  | 0 => .object "FurrowField$Plant"
  | 1 => .boolean
  | 2 => .int
  | _ => .int
theorem nmX1 : ∀ a, a < 4 → ∀ b, b < 4 → a ≠ b → (TX1 a).2.1 ≠ (TX1 b).2.1 := by decide +kernel
theorem tyX1_ok : ∀ k, k < 4 → parseFieldDescriptor (TX1 k).2.2.1 = some (tyX1 k) := by decide +kernel
abbrev cX1_init : ByteArray := prog_3_method_1_code
def yX1_init : MethodName := ⟨RX1, "<init>", "()V"⟩
def RX2 : String := "FurrowField$Depths"
def TX2 : u_T := fun k => match k with
  | 0 => ("FurrowField$Depths", "dx", "[J", true)
  | 1 => ("FurrowField$Depths", "dy", "[J", true)
  | 2 => ("FurrowField$Depths", "known", "Z", false)
  | 3 => ("FurrowField$Depths", "depth", "I", false)
  | 4 => ("FurrowField$Depths", "x", "J", false)
  | 5 => ("FurrowField$Depths", "y", "J", false)
  | _ => ("FurrowField$Depths", "lower", "J", false)
def tyX2 : Nat → FieldType := fun k => match k with
  | 0 => .array .long
  | 1 => .array .long
  | 2 => .boolean
  | 3 => .int
  | 4 => .long
  | 5 => .long
  | _ => .long
theorem nmX2 : ∀ a, a < 7 → ∀ b, b < 7 → a ≠ b → (TX2 a).2.1 ≠ (TX2 b).2.1 := by decide +kernel
theorem tyX2_ok : ∀ k, k < 7 → parseFieldDescriptor (TX2 k).2.2.1 = some (tyX2 k) := by decide +kernel
abbrev cX2_init : ByteArray := prog_4_method_1_code
def yX2_init : MethodName := ⟨RX2, "<init>", "()V"⟩
abbrev cX2_depthAt : ByteArray := prog_4_method_2_code
def yX2_depthAt : MethodName := ⟨RX2, "depthAt", "(LFurrowField$Stand;JJJI)I"⟩
abbrev cX2_isHere : ByteArray := prog_4_method_3_code
def yX2_isHere : MethodName := ⟨RX2, "isHere", "(I)Z"⟩
abbrev cX2_leastBeside : ByteArray := prog_4_method_4_code
def yX2_leastBeside : MethodName := ⟨RX2, "leastBeside", "(LFurrowField$Stand;I)I"⟩
abbrev cX2_findDeepest : ByteArray := prog_4_method_5_code
def yX2_findDeepest : MethodName := ⟨RX2, "findDeepest", "(LFurrowField$Stand;LFurrowField$Lines;)V"⟩
abbrev cX2_considerCrossing : ByteArray := prog_4_method_6_code
def yX2_considerCrossing : MethodName := ⟨RX2, "considerCrossing", "(LFurrowField$Stand;LFurrowField$Lines;II)V"⟩
abbrev cX2_consider : ByteArray := prog_4_method_7_code
def yX2_consider : MethodName := ⟨RX2, "consider", "(LFurrowField$Stand;JJJ)V"⟩
abbrev cX2_isAhead : ByteArray := prog_4_method_8_code
def yX2_isAhead : MethodName := ⟨RX2, "isAhead", "(JJJ)Z"⟩
abbrev cX2_tell : ByteArray := prog_4_method_9_code
def yX2_tell : MethodName := ⟨RX2, "tell", "(I)J"⟩
def RX3 : String := "FurrowField$Layers"
def TX3 : u_T := fun k => match k with
  | 0 => ("FurrowField$Layers", "layer", "[I", true)
  | 1 => ("FurrowField$Layers", "known", "Z", false)
  | _ => ("FurrowField$Layers", "n", "I", false)
def tyX3 : Nat → FieldType := fun k => match k with
  | 0 => .array .int
  | 1 => .boolean
  | _ => .int
theorem nmX3 : ∀ a, a < 3 → ∀ b, b < 3 → a ≠ b → (TX3 a).2.1 ≠ (TX3 b).2.1 := by decide +kernel
theorem tyX3_ok : ∀ k, k < 3 → parseFieldDescriptor (TX3 k).2.2.1 = some (tyX3 k) := by decide +kernel
abbrev cX3_init : ByteArray := prog_5_method_1_code
def yX3_init : MethodName := ⟨RX3, "<init>", "()V"⟩
abbrev cX3_peel : ByteArray := prog_5_method_2_code
def yX3_peel : MethodName := ⟨RX3, "peel", "(LFurrowField$Stand;)V"⟩
abbrev cX3_peelOne : ByteArray := prog_5_method_3_code
def yX3_peelOne : MethodName := ⟨RX3, "peelOne", "(LFurrowField$Stand;I)I"⟩
abbrev cX3_isIn : ByteArray := prog_5_method_4_code
def yX3_isIn : MethodName := ⟨RX3, "isIn", "(II)Z"⟩
abbrev cX3_isOnEdge : ByteArray := prog_5_method_5_code
def yX3_isOnEdge : MethodName := ⟨RX3, "isOnEdge", "(LFurrowField$Stand;II)Z"⟩
abbrev cX3_isOneSided : ByteArray := prog_5_method_6_code
def yX3_isOneSided : MethodName := ⟨RX3, "isOneSided", "(LFurrowField$Stand;III)Z"⟩
abbrev cX3_layerOf : ByteArray := prog_5_method_7_code
def yX3_layerOf : MethodName := ⟨RX3, "layerOf", "(I)I"⟩
abbrev cX3_sizeOf : ByteArray := prog_5_method_8_code
def yX3_sizeOf : MethodName := ⟨RX3, "sizeOf", "(I)I"⟩
def RX4 : String := "FurrowField$Line"
def TX4 : u_T := fun k => match k with
  | 0 => ("FurrowField$Line", "a", "I", false)
  | 1 => ("FurrowField$Line", "b", "I", false)
  | _ => ("FurrowField$Line", "c", "I", false)
def tyX4 : Nat → FieldType := fun k => match k with
  | 0 => .int
  | 1 => .int
  | _ => .int
theorem nmX4 : ∀ a, a < 3 → ∀ b, b < 3 → a ≠ b → (TX4 a).2.1 ≠ (TX4 b).2.1 := by decide +kernel
theorem tyX4_ok : ∀ k, k < 3 → parseFieldDescriptor (TX4 k).2.2.1 = some (tyX4 k) := by decide +kernel
abbrev cX4_init : ByteArray := prog_6_method_1_code
def yX4_init : MethodName := ⟨RX4, "<init>", "()V"⟩
abbrev cX4_become : ByteArray := prog_6_method_2_code
def yX4_become : MethodName := ⟨RX4, "become", "(III)V"⟩
abbrev cX4_join : ByteArray := prog_6_method_3_code
def yX4_join : MethodName := ⟨RX4, "join", "(IIII)V"⟩
abbrev cX4_sideOf : ByteArray := prog_6_method_4_code
def yX4_sideOf : MethodName := ⟨RX4, "sideOf", "(II)I"⟩
def RX5 : String := "FurrowField$Lines"
def TX5 : u_T := fun k => match k with
  | 0 => ("FurrowField$Lines", "a", "[I", true)
  | 1 => ("FurrowField$Lines", "b", "[I", true)
  | 2 => ("FurrowField$Lines", "c", "[I", true)
  | 3 => ("FurrowField$Lines", "furrows", "[I", true)
  | 4 => ("FurrowField$Lines", "scratch", "LFurrowField$Line;", true)
  | 5 => ("FurrowField$Lines", "furrowsKnown", "Z", false)
  | 6 => ("FurrowField$Lines", "furrowsFound", "I", false)
  | 7 => ("FurrowField$Lines", "known", "Z", false)
  | 8 => ("FurrowField$Lines", "n", "I", false)
  | 9 => ("FurrowField$Lines", "greatest", "I", false)
  | _ => ("FurrowField$Lines", "least", "I", false)
def tyX5 : Nat → FieldType := fun k => match k with
  | 0 => .array .int
  | 1 => .array .int
  | 2 => .array .int
  | 3 => .array .int
  | 4 => .object "FurrowField$Line"
  | 5 => .boolean
  | 6 => .int
  | 7 => .boolean
  | 8 => .int
  | 9 => .int
  | _ => .int
theorem nmX5 : ∀ a, a < 11 → ∀ b, b < 11 → a ≠ b → (TX5 a).2.1 ≠ (TX5 b).2.1 := by decide +kernel
theorem tyX5_ok : ∀ k, k < 11 → parseFieldDescriptor (TX5 k).2.2.1 = some (tyX5 k) := by decide +kernel
abbrev cX5_init : ByteArray := prog_7_method_1_code
def yX5_init : MethodName := ⟨RX5, "<init>", "()V"⟩
abbrev cX5_gather : ByteArray := prog_7_method_2_code
def yX5_gather : MethodName := ⟨RX5, "gather", "(LFurrowField$Stand;)V"⟩
abbrev cX5_isFirstPair : ByteArray := prog_7_method_3_code
def yX5_isFirstPair : MethodName := ⟨RX5, "isFirstPair", "(LFurrowField$Stand;II)Z"⟩
abbrev cX5_add : ByteArray := prog_7_method_4_code
def yX5_add : MethodName := ⟨RX5, "add", "(LFurrowField$Stand;II)V"⟩
abbrev cX5_plantsOn : ByteArray := prog_7_method_5_code
def yX5_plantsOn : MethodName := ⟨RX5, "plantsOn", "(LFurrowField$Stand;II)I"⟩
abbrev cX5_furrowCount : ByteArray := prog_7_method_6_code
def yX5_furrowCount : MethodName := ⟨RX5, "furrowCount", "(LFurrowField$Stand;)I"⟩
abbrev cX5_findFurrows : ByteArray := prog_7_method_7_code
def yX5_findFurrows : MethodName := ⟨RX5, "findFurrows", "(LFurrowField$Stand;)V"⟩
abbrev cX5_giveFurrow : ByteArray := prog_7_method_8_code
def yX5_giveFurrow : MethodName := ⟨RX5, "giveFurrow", "(LFurrowField$Stand;ILFurrowField$Line;)V"⟩
def RX6 : String := "FurrowField$Plant"
def TX6 : u_T := fun k => match k with
  | 0 => ("FurrowField$Plant", "x", "I", false)
  | 1 => ("FurrowField$Plant", "y", "I", false)
  | 2 => ("FurrowField$Plant", "kind", "I", false)
  | 3 => ("FurrowField$Plant", "colour", "I", false)
  | 4 => ("FurrowField$Plant", "red", "I", false)
  | 5 => ("FurrowField$Plant", "blue", "I", false)
  | 6 => ("FurrowField$Plant", "all", "I", false)
  | _ => ("FurrowField$Plant", "there", "Z", false)
def tyX6 : Nat → FieldType := fun k => match k with
  | 0 => .int
  | 1 => .int
  | 2 => .int
  | 3 => .int
  | 4 => .int
  | 5 => .int
  | 6 => .int
  | _ => .boolean
theorem nmX6 : ∀ a, a < 8 → ∀ b, b < 8 → a ≠ b → (TX6 a).2.1 ≠ (TX6 b).2.1 := by decide +kernel
theorem tyX6_ok : ∀ k, k < 8 → parseFieldDescriptor (TX6 k).2.2.1 = some (tyX6 k) := by decide +kernel
abbrev cX6_init : ByteArray := prog_8_method_1_code
def yX6_init : MethodName := ⟨RX6, "<init>", "()V"⟩
abbrev cX6_begin : ByteArray := prog_8_method_2_code
def yX6_begin : MethodName := ⟨RX6, "begin", "(IIILFurrowField$Trace;)V"⟩
abbrev cX6_paint : ByteArray := prog_8_method_3_code
def yX6_paint : MethodName := ⟨RX6, "paint", "(ILFurrowField$Trace;)V"⟩
abbrev cX6_become : ByteArray := prog_8_method_4_code
def yX6_become : MethodName := ⟨RX6, "become", "(LFurrowField$Plant;)V"⟩
abbrev cX6_isOf : ByteArray := prog_8_method_5_code
def yX6_isOf : MethodName := ⟨RX6, "isOf", "(I)Z"⟩
abbrev cX6_answer : ByteArray := prog_8_method_6_code
def yX6_answer : MethodName := ⟨RX6, "answer", "(ILFurrowField$Trace;)I"⟩
abbrev cX6_begun : ByteArray := prog_8_method_7_code
def yX6_begun : MethodName := ⟨RX6, "begun", "(ILFurrowField$Trace;I)I"⟩
abbrev cX6_gives : ByteArray := prog_8_method_8_code
def yX6_gives : MethodName := ⟨RX6, "gives", "(ILFurrowField$Trace;I)I"⟩
def RX7 : String := "FurrowField$Stand"
def TX7 : u_T := fun k => match k with
  | 0 => ("FurrowField$Stand", "number", "[I", true)
  | 1 => ("FurrowField$Stand", "x", "[I", true)
  | 2 => ("FurrowField$Stand", "y", "[I", true)
  | 3 => ("FurrowField$Stand", "red", "[I", true)
  | 4 => ("FurrowField$Stand", "blue", "[I", true)
  | 5 => ("FurrowField$Stand", "all", "[I", true)
  | 6 => ("FurrowField$Stand", "known", "Z", false)
  | _ => ("FurrowField$Stand", "n", "I", false)
def tyX7 : Nat → FieldType := fun k => match k with
  | 0 => .array .int
  | 1 => .array .int
  | 2 => .array .int
  | 3 => .array .int
  | 4 => .array .int
  | 5 => .array .int
  | 6 => .boolean
  | _ => .int
theorem nmX7 : ∀ a, a < 8 → ∀ b, b < 8 → a ≠ b → (TX7 a).2.1 ≠ (TX7 b).2.1 := by decide +kernel
theorem tyX7_ok : ∀ k, k < 8 → parseFieldDescriptor (TX7 k).2.2.1 = some (tyX7 k) := by decide +kernel
abbrev cX7_init : ByteArray := prog_9_method_1_code
def yX7_init : MethodName := ⟨RX7, "<init>", "()V"⟩
abbrev cX7_gather : ByteArray := prog_9_method_2_code
def yX7_gather : MethodName := ⟨RX7, "gather", "([LFurrowField$Plant;I)V"⟩
abbrev cX7_add : ByteArray := prog_9_method_3_code
def yX7_add : MethodName := ⟨RX7, "add", "(ILFurrowField$Plant;)V"⟩
abbrev cX7_placeOf : ByteArray := prog_9_method_4_code
def yX7_placeOf : MethodName := ⟨RX7, "placeOf", "(I)I"⟩
abbrev cX7_isTogether : ByteArray := prog_9_method_5_code
def yX7_isTogether : MethodName := ⟨RX7, "isTogether", "(II)Z"⟩
abbrev cX7_row : ByteArray := prog_9_method_6_code
def yX7_row : MethodName := ⟨RX7, "row", "(I)[I"⟩
abbrev cX7_total : ByteArray := prog_9_method_7_code
def yX7_total : MethodName := ⟨RX7, "total", "(I)I"⟩
abbrev cX7_sumAt : ByteArray := prog_9_method_8_code
def yX7_sumAt : MethodName := ⟨RX7, "sumAt", "(LFurrowField$Line;II)I"⟩
abbrev cX7_isHalvedBy : ByteArray := prog_9_method_9_code
def yX7_isHalvedBy : MethodName := ⟨RX7, "isHalvedBy", "(LFurrowField$Line;I)Z"⟩
abbrev cX7_turn : ByteArray := prog_9_method_10_code
def yX7_turn : MethodName := ⟨RX7, "turn", "(III)I"⟩
def RX8 : String := "FurrowField$Strips"
def TX8 : u_T := fun k => match k with
  | 0 => ("FurrowField$Strips", "along", "[I", true)
  | 1 => ("FurrowField$Strips", "known", "Z", false)
  | 2 => ("FurrowField$Strips", "upper", "J", false)
  | _ => ("FurrowField$Strips", "lower", "J", false)
def tyX8 : Nat → FieldType := fun k => match k with
  | 0 => .array .int
  | 1 => .boolean
  | 2 => .long
  | _ => .long
theorem nmX8 : ∀ a, a < 4 → ∀ b, b < 4 → a ≠ b → (TX8 a).2.1 ≠ (TX8 b).2.1 := by decide +kernel
theorem tyX8_ok : ∀ k, k < 4 → parseFieldDescriptor (TX8 k).2.2.1 = some (tyX8 k) := by decide +kernel
abbrev cX8_init : ByteArray := prog_10_method_1_code
def yX8_init : MethodName := ⟨RX8, "<init>", "()V"⟩
abbrev cX8_findWidest : ByteArray := prog_10_method_2_code
def yX8_findWidest : MethodName := ⟨RX8, "findWidest", "(LFurrowField$Stand;LFurrowField$Lines;)V"⟩
abbrev cX8_consider : ByteArray := prog_10_method_3_code
def yX8_consider : MethodName := ⟨RX8, "consider", "(LFurrowField$Stand;II)V"⟩
abbrev cX8_putInOrder : ByteArray := prog_10_method_4_code
def yX8_putInOrder : MethodName := ⟨RX8, "putInOrder", "(II)V"⟩
def RX9 : String := "FurrowField$Trace"
def TX9 : u_T := fun k => match k with
  | 0 => ("FurrowField$Trace", "numbers", "[I", true)
  | _ => ("FurrowField$Trace", "length", "I", false)
def tyX9 : Nat → FieldType := fun k => match k with
  | 0 => .array .int
  | _ => .int
theorem nmX9 : ∀ a, a < 2 → ∀ b, b < 2 → a ≠ b → (TX9 a).2.1 ≠ (TX9 b).2.1 := by decide +kernel
theorem tyX9_ok : ∀ k, k < 2 → parseFieldDescriptor (TX9 k).2.2.1 = some (tyX9 k) := by decide +kernel
abbrev cX9_init : ByteArray := prog_11_method_1_code
def yX9_init : MethodName := ⟨RX9, "<init>", "(I)V"⟩
abbrev cX9_leave : ByteArray := prog_11_method_2_code
def yX9_leave : MethodName := ⟨RX9, "leave", "(I)V"⟩
def RX10 : String := "FurrowField"
def TX10 : u_T := fun k => match k with
  | 0 => ("FurrowField", "beds", "[LFurrowField$Bed;", true)
  | 1 => ("FurrowField", "plants", "[LFurrowField$Plant;", true)
  | 2 => ("FurrowField", "change", "LFurrowField$Change;", true)
  | 3 => ("FurrowField", "trace", "LFurrowField$Trace;", true)
  | 4 => ("FurrowField", "silent", "LFurrowField$Trace;", true)
  | 5 => ("FurrowField", "theLine", "LFurrowField$Line;", true)
  | 6 => ("FurrowField", "stand", "LFurrowField$Stand;", true)
  | 7 => ("FurrowField", "lines", "LFurrowField$Lines;", true)
  | 8 => ("FurrowField", "layers", "LFurrowField$Layers;", true)
  | 9 => ("FurrowField", "depths", "LFurrowField$Depths;", true)
  | 10 => ("FurrowField", "strips", "LFurrowField$Strips;", true)
  | 11 => ("FurrowField", "given", "I", false)
  | _ => ("FurrowField", "finding", "I", false)
def tyX10 : Nat → FieldType := fun k => match k with
  | 0 => .array (.object "FurrowField$Bed")
  | 1 => .array (.object "FurrowField$Plant")
  | 2 => .object "FurrowField$Change"
  | 3 => .object "FurrowField$Trace"
  | 4 => .object "FurrowField$Trace"
  | 5 => .object "FurrowField$Line"
  | 6 => .object "FurrowField$Stand"
  | 7 => .object "FurrowField$Lines"
  | 8 => .object "FurrowField$Layers"
  | 9 => .object "FurrowField$Depths"
  | 10 => .object "FurrowField$Strips"
  | 11 => .int
  | _ => .int
theorem nmX10 : ∀ a, a < 13 → ∀ b, b < 13 → a ≠ b → (TX10 a).2.1 ≠ (TX10 b).2.1 := by decide +kernel
theorem tyX10_ok : ∀ k, k < 13 → parseFieldDescriptor (TX10 k).2.2.1 = some (tyX10 k) := by decide +kernel
abbrev cX10_init : ByteArray := prog_1_method_1_code
def yX10_init : MethodName := ⟨RX10, "<init>", "()V"⟩
abbrev cX10_bed : ByteArray := prog_1_method_2_code
def yX10_bed : MethodName := ⟨RX10, "bed", "(III)I"⟩
abbrev cX10_set : ByteArray := prog_1_method_3_code
def yX10_set : MethodName := ⟨RX10, "set", "(IIJ)J"⟩
abbrev cX10_drop : ByteArray := prog_1_method_4_code
def yX10_drop : MethodName := ⟨RX10, "drop", "(I)I"⟩
abbrev cX10_copy : ByteArray := prog_1_method_5_code
def yX10_copy : MethodName := ⟨RX10, "copy", "(IIIII)I"⟩
abbrev cX10_plant : ByteArray := prog_1_method_6_code
def yX10_plant : MethodName := ⟨RX10, "plant", "(III)I"⟩
abbrev cX10_move : ByteArray := prog_1_method_7_code
def yX10_move : MethodName := ⟨RX10, "move", "(III)I"⟩
abbrev cX10_away : ByteArray := prog_1_method_8_code
def yX10_away : MethodName := ⟨RX10, "away", "(I)I"⟩
abbrev cX10_colour : ByteArray := prog_1_method_9_code
def yX10_colour : MethodName := ⟨RX10, "colour", "(II)I"⟩
abbrev cX10_told : ByteArray := prog_1_method_10_code
def yX10_told : MethodName := ⟨RX10, "told", "(II)I"⟩
abbrev cX10_is : ByteArray := prog_1_method_11_code
def yX10_is : MethodName := ⟨RX10, "is", "(II)I"⟩
abbrev cX10_ask : ByteArray := prog_1_method_12_code
def yX10_ask : MethodName := ⟨RX10, "ask", "(II)I"⟩
abbrev cX10_trace : ByteArray := prog_1_method_13_code
def yX10_trace : MethodName := ⟨RX10, "trace", "(I)I"⟩
abbrev cX10_undo : ByteArray := prog_1_method_14_code
def yX10_undo : MethodName := ⟨RX10, "undo", "()I"⟩
abbrev cX10_line : ByteArray := prog_1_method_15_code
def yX10_line : MethodName := ⟨RX10, "line", "(III)I"⟩
abbrev cX10_through : ByteArray := prog_1_method_16_code
def yX10_through : MethodName := ⟨RX10, "through", "(II)I"⟩
abbrev cX10_lineAt : ByteArray := prog_1_method_17_code
def yX10_lineAt : MethodName := ⟨RX10, "lineAt", "(I)I"⟩
abbrev cX10_side : ByteArray := prog_1_method_18_code
def yX10_side : MethodName := ⟨RX10, "side", "(II)I"⟩
abbrev cX10_halves : ByteArray := prog_1_method_19_code
def yX10_halves : MethodName := ⟨RX10, "halves", "(I)I"⟩
abbrev cX10_furrow : ByteArray := prog_1_method_20_code
def yX10_furrow : MethodName := ⟨RX10, "furrow", "(I)I"⟩
abbrev cX10_furrows : ByteArray := prog_1_method_21_code
def yX10_furrows : MethodName := ⟨RX10, "furrows", "()I"⟩
abbrev cX10_depth : ByteArray := prog_1_method_22_code
def yX10_depth : MethodName := ⟨RX10, "depth", "(III)I"⟩
abbrev cX10_deepest : ByteArray := prog_1_method_23_code
def yX10_deepest : MethodName := ⟨RX10, "deepest", "(I)J"⟩
abbrev cX10_layer : ByteArray := prog_1_method_24_code
def yX10_layer : MethodName := ⟨RX10, "layer", "(I)I"⟩
abbrev cX10_most : ByteArray := prog_1_method_25_code
def yX10_most : MethodName := ⟨RX10, "most", "(I)I"⟩
abbrev cX10_widest : ByteArray := prog_1_method_26_code
def yX10_widest : MethodName := ⟨RX10, "widest", "(I)J"⟩
abbrev cX10_count : ByteArray := prog_1_method_27_code
def yX10_count : MethodName := ⟨RX10, "count", "(I)I"⟩
abbrev cX10_status : ByteArray := prog_1_method_28_code
def yX10_status : MethodName := ⟨RX10, "status", "()I"⟩
abbrev cX10_found : ByteArray := prog_1_method_29_code
def yX10_found : MethodName := ⟨RX10, "found", "(I)I"⟩
abbrev cX10_done : ByteArray := prog_1_method_30_code
def yX10_done : MethodName := ⟨RX10, "done", "(I)I"⟩
abbrev cX10_isGiven : ByteArray := prog_1_method_31_code
def yX10_isGiven : MethodName := ⟨RX10, "isGiven", "(I)Z"⟩
abbrev cX10_bedsThere : ByteArray := prog_1_method_32_code
def yX10_bedsThere : MethodName := ⟨RX10, "bedsThere", "()I"⟩
abbrev cX10_keepForUndo : ByteArray := prog_1_method_33_code
def yX10_keepForUndo : MethodName := ⟨RX10, "keepForUndo", "(I)V"⟩
abbrev cX10_forget : ByteArray := prog_1_method_34_code
def yX10_forget : MethodName := ⟨RX10, "forget", "()V"⟩
abbrev cX10_gathered : ByteArray := prog_1_method_35_code
def yX10_gathered : MethodName := ⟨RX10, "gathered", "()LFurrowField$Stand;"⟩
abbrev cX10_joined : ByteArray := prog_1_method_36_code
def yX10_joined : MethodName := ⟨RX10, "joined", "()LFurrowField$Lines;"⟩
abbrev cX10_peeled : ByteArray := prog_1_method_37_code
def yX10_peeled : MethodName := ⟨RX10, "peeled", "()LFurrowField$Layers;"⟩
abbrev cX10_isBelow : ByteArray := prog_1_method_38_code
def yX10_isBelow : MethodName := ⟨RX10, "isBelow", "(II)Z"⟩
abbrev cX10_isWithin : ByteArray := prog_1_method_39_code
def yX10_isWithin : MethodName := ⟨RX10, "isWithin", "(JJ)Z"⟩
abbrev cX10_isInField : ByteArray := prog_1_method_40_code
def yX10_isInField : MethodName := ⟨RX10, "isInField", "(J)Z"⟩
abbrev cX10_isBed : ByteArray := prog_1_method_41_code
def yX10_isBed : MethodName := ⟨RX10, "isBed", "(I)Z"⟩
abbrev cX10_commonDivisor : ByteArray := prog_1_method_42_code
def yX10_commonDivisor : MethodName := ⟨RX10, "commonDivisor", "(JJ)J"⟩
abbrev cX10_without : ByteArray := prog_1_method_43_code
def yX10_without : MethodName := ⟨RX10, "without", "(JJ)J"⟩
def RX11 : String := "FurrowFieldModel"
def TX11 : u_T := fun k => match k with
  | 0 => ("FurrowFieldModel", "given", "I", false)
  | 1 => ("FurrowFieldModel", "px", "[I", true)
  | 2 => ("FurrowFieldModel", "py", "[I", true)
  | 3 => ("FurrowFieldModel", "kind", "[I", true)
  | 4 => ("FurrowFieldModel", "colour", "[I", true)
  | 5 => ("FurrowFieldModel", "isAway", "[Z", true)
  | 6 => ("FurrowFieldModel", "undoPlant", "I", false)
  | 7 => ("FurrowFieldModel", "undoIsNew", "Z", false)
  | 8 => ("FurrowFieldModel", "undoX", "I", false)
  | 9 => ("FurrowFieldModel", "undoY", "I", false)
  | 10 => ("FurrowFieldModel", "undoColour", "I", false)
  | 11 => ("FurrowFieldModel", "undoAway", "Z", false)
  | 12 => ("FurrowFieldModel", "bedLane", "[I", true)
  | 13 => ("FurrowFieldModel", "bedItems", "[I", true)
  | 14 => ("FurrowFieldModel", "item", "[J", true)
  | 15 => ("FurrowFieldModel", "moving", "[J", true)
  | 16 => ("FurrowFieldModel", "status", "I", false)
  | 17 => ("FurrowFieldModel", "trace", "[I", true)
  | 18 => ("FurrowFieldModel", "traced", "I", false)
  | 19 => ("FurrowFieldModel", "isTraced", "Z", false)
  | 20 => ("FurrowFieldModel", "lineA", "J", false)
  | 21 => ("FurrowFieldModel", "lineB", "J", false)
  | 22 => ("FurrowFieldModel", "lineC", "J", false)
  | 23 => ("FurrowFieldModel", "a", "J", false)
  | 24 => ("FurrowFieldModel", "b", "J", false)
  | 25 => ("FurrowFieldModel", "c", "J", false)
  | 26 => ("FurrowFieldModel", "vx", "[J", true)
  | 27 => ("FurrowFieldModel", "vy", "[J", true)
  | 28 => ("FurrowFieldModel", "weight", "[I", true)
  | 29 => ("FurrowFieldModel", "bestDepth", "I", false)
  | 30 => ("FurrowFieldModel", "bestX", "J", false)
  | 31 => ("FurrowFieldModel", "bestY", "J", false)
  | 32 => ("FurrowFieldModel", "bestD", "J", false)
  | 33 => ("FurrowFieldModel", "la", "[J", true)
  | 34 => ("FurrowFieldModel", "lb", "[J", true)
  | 35 => ("FurrowFieldModel", "lc", "[J", true)
  | 36 => ("FurrowFieldModel", "layerOf", "[I", true)
  | 37 => ("FurrowFieldModel", "onEdge", "[Z", true)
  | 38 => ("FurrowFieldModel", "wideUp", "J", false)
  | _ => ("FurrowFieldModel", "wideLow", "J", false)
def tyX11 : Nat → FieldType := fun k => match k with
  | 0 => .int
  | 1 => .array .int
  | 2 => .array .int
  | 3 => .array .int
  | 4 => .array .int
  | 5 => .array .boolean
  | 6 => .int
  | 7 => .boolean
  | 8 => .int
  | 9 => .int
  | 10 => .int
  | 11 => .boolean
  | 12 => .array .int
  | 13 => .array .int
  | 14 => .array .long
  | 15 => .array .long
  | 16 => .int
  | 17 => .array .int
  | 18 => .int
  | 19 => .boolean
  | 20 => .long
  | 21 => .long
  | 22 => .long
  | 23 => .long
  | 24 => .long
  | 25 => .long
  | 26 => .array .long
  | 27 => .array .long
  | 28 => .array .int
  | 29 => .int
  | 30 => .long
  | 31 => .long
  | 32 => .long
  | 33 => .array .long
  | 34 => .array .long
  | 35 => .array .long
  | 36 => .array .int
  | 37 => .array .boolean
  | 38 => .long
  | _ => .long
theorem nmX11 : ∀ a, a < 40 → ∀ b, b < 40 → a ≠ b → (TX11 a).2.1 ≠ (TX11 b).2.1 := by decide +kernel
theorem tyX11_ok : ∀ k, k < 40 → parseFieldDescriptor (TX11 k).2.2.1 = some (tyX11 k) := by decide +kernel
abbrev cX11_init : ByteArray := prog_13_method_1_code
def yX11_init : MethodName := ⟨RX11, "<init>", "()V"⟩
abbrev cX11_in : ByteArray := prog_13_method_2_code
def yX11_in : MethodName := ⟨RX11, "in", "(JJJ)Z"⟩
abbrev cX11_finds : ByteArray := prog_13_method_3_code
def yX11_finds : MethodName := ⟨RX11, "finds", "(I)I"⟩
abbrev cX11_well : ByteArray := prog_13_method_4_code
def yX11_well : MethodName := ⟨RX11, "well", "(I)I"⟩
abbrev cX11_isBed : ByteArray := prog_13_method_5_code
def yX11_isBed : MethodName := ⟨RX11, "isBed", "(I)Z"⟩
abbrev cX11_bed : ByteArray := prog_13_method_6_code
def yX11_bed : MethodName := ⟨RX11, "bed", "(III)I"⟩
abbrev cX11_set : ByteArray := prog_13_method_7_code
def yX11_set : MethodName := ⟨RX11, "set", "(IIJ)J"⟩
abbrev cX11_drop : ByteArray := prog_13_method_8_code
def yX11_drop : MethodName := ⟨RX11, "drop", "(I)I"⟩
abbrev cX11_copy : ByteArray := prog_13_method_9_code
def yX11_copy : MethodName := ⟨RX11, "copy", "(IIIII)I"⟩
abbrev cX11_isPlant : ByteArray := prog_13_method_10_code
def yX11_isPlant : MethodName := ⟨RX11, "isPlant", "(I)Z"⟩
abbrev cX11_keep : ByteArray := prog_13_method_11_code
def yX11_keep : MethodName := ⟨RX11, "keep", "(IZ)V"⟩
abbrev cX11_plant : ByteArray := prog_13_method_12_code
def yX11_plant : MethodName := ⟨RX11, "plant", "(III)I"⟩
abbrev cX11_move : ByteArray := prog_13_method_13_code
def yX11_move : MethodName := ⟨RX11, "move", "(III)I"⟩
abbrev cX11_there : ByteArray := prog_13_method_14_code
def yX11_there : MethodName := ⟨RX11, "there", "()I"⟩
abbrev cX11_away : ByteArray := prog_13_method_15_code
def yX11_away : MethodName := ⟨RX11, "away", "(I)I"⟩
abbrev cX11_colour : ByteArray := prog_13_method_16_code
def yX11_colour : MethodName := ⟨RX11, "colour", "(II)I"⟩
abbrev cX11_told : ByteArray := prog_13_method_17_code
def yX11_told : MethodName := ⟨RX11, "told", "(II)I"⟩
abbrev cX11_isOf : ByteArray := prog_13_method_18_code
def yX11_isOf : MethodName := ⟨RX11, "isOf", "(II)Z"⟩
abbrev cX11_is : ByteArray := prog_13_method_19_code
def yX11_is : MethodName := ⟨RX11, "is", "(II)I"⟩
abbrev cX11_begins : ByteArray := prog_13_method_20_code
def yX11_begins : MethodName := ⟨RX11, "begins", "(I)V"⟩
abbrev cX11_red : ByteArray := prog_13_method_21_code
def yX11_red : MethodName := ⟨RX11, "red", "(I)I"⟩
abbrev cX11_blue : ByteArray := prog_13_method_22_code
def yX11_blue : MethodName := ⟨RX11, "blue", "(I)I"⟩
abbrev cX11_lentAll : ByteArray := prog_13_method_23_code
def yX11_lentAll : MethodName := ⟨RX11, "lentAll", "(I)I"⟩
abbrev cX11_all : ByteArray := prog_13_method_24_code
def yX11_all : MethodName := ⟨RX11, "all", "(I)I"⟩
abbrev cX11_worth : ByteArray := prog_13_method_25_code
def yX11_worth : MethodName := ⟨RX11, "worth", "(I)I"⟩
abbrev cX11_asked : ByteArray := prog_13_method_26_code
def yX11_asked : MethodName := ⟨RX11, "asked", "(II)I"⟩
abbrev cX11_ask : ByteArray := prog_13_method_27_code
def yX11_ask : MethodName := ⟨RX11, "ask", "(II)I"⟩
abbrev cX11_trace : ByteArray := prog_13_method_28_code
def yX11_trace : MethodName := ⟨RX11, "trace", "(I)I"⟩
abbrev cX11_undo : ByteArray := prog_13_method_29_code
def yX11_undo : MethodName := ⟨RX11, "undo", "()I"⟩
abbrev cX11_divisor : ByteArray := prog_13_method_30_code
def yX11_divisor : MethodName := ⟨RX11, "divisor", "(JJ)J"⟩
abbrev cX11_line : ByteArray := prog_13_method_31_code
def yX11_line : MethodName := ⟨RX11, "line", "(III)I"⟩
abbrev cX11_isApart : ByteArray := prog_13_method_32_code
def yX11_isApart : MethodName := ⟨RX11, "isApart", "(II)Z"⟩
abbrev cX11_look : ByteArray := prog_13_method_33_code
def yX11_look : MethodName := ⟨RX11, "look", "(II)V"⟩
abbrev cX11_at : ByteArray := prog_13_method_34_code
def yX11_at : MethodName := ⟨RX11, "at", "(I)J"⟩
abbrev cX11_lookAtLine : ByteArray := prog_13_method_35_code
def yX11_lookAtLine : MethodName := ⟨RX11, "lookAtLine", "()V"⟩
abbrev cX11_putLine : ByteArray := prog_13_method_36_code
def yX11_putLine : MethodName := ⟨RX11, "putLine", "()V"⟩
abbrev cX11_through : ByteArray := prog_13_method_37_code
def yX11_through : MethodName := ⟨RX11, "through", "(II)I"⟩
abbrev cX11_lineAt : ByteArray := prog_13_method_38_code
def yX11_lineAt : MethodName := ⟨RX11, "lineAt", "(I)I"⟩
abbrev cX11_sumOf : ByteArray := prog_13_method_39_code
def yX11_sumOf : MethodName := ⟨RX11, "sumOf", "(II)I"⟩
abbrev cX11_isHalved : ByteArray := prog_13_method_40_code
def yX11_isHalved : MethodName := ⟨RX11, "isHalved", "(I)Z"⟩
abbrev cX11_side : ByteArray := prog_13_method_41_code
def yX11_side : MethodName := ⟨RX11, "side", "(II)I"⟩
abbrev cX11_halves : ByteArray := prog_13_method_42_code
def yX11_halves : MethodName := ⟨RX11, "halves", "(I)I"⟩
abbrev cX11_isFirst : ByteArray := prog_13_method_43_code
def yX11_isFirst : MethodName := ⟨RX11, "isFirst", "(II)Z"⟩
abbrev cX11_firstThere : ByteArray := prog_13_method_44_code
def yX11_firstThere : MethodName := ⟨RX11, "firstThere", "()I"⟩
abbrev cX11_findFurrow : ByteArray := prog_13_method_45_code
def yX11_findFurrow : MethodName := ⟨RX11, "findFurrow", "(I)I"⟩
abbrev cX11_furrow : ByteArray := prog_13_method_46_code
def yX11_furrow : MethodName := ⟨RX11, "furrow", "(I)I"⟩
abbrev cX11_furrows : ByteArray := prog_13_method_47_code
def yX11_furrows : MethodName := ⟨RX11, "furrows", "()I"⟩
abbrev cX11_sumBeyond : ByteArray := prog_13_method_48_code
def yX11_sumBeyond : MethodName := ⟨RX11, "sumBeyond", "(IJJJJ)I"⟩
abbrev cX11_depthOf : ByteArray := prog_13_method_49_code
def yX11_depthOf : MethodName := ⟨RX11, "depthOf", "(JJJ)I"⟩
abbrev cX11_depth : ByteArray := prog_13_method_50_code
def yX11_depth : MethodName := ⟨RX11, "depth", "(III)I"⟩
abbrev cX11_offer : ByteArray := prog_13_method_51_code
def yX11_offer : MethodName := ⟨RX11, "offer", "(JJJ)V"⟩
abbrev cX11_deepest : ByteArray := prog_13_method_52_code
def yX11_deepest : MethodName := ⟨RX11, "deepest", "(I)J"⟩
abbrev cX11_isOnEdge : ByteArray := prog_13_method_53_code
def yX11_isOnEdge : MethodName := ⟨RX11, "isOnEdge", "(I)Z"⟩
abbrev cX11_findLayers : ByteArray := prog_13_method_54_code
def yX11_findLayers : MethodName := ⟨RX11, "findLayers", "()I"⟩
abbrev cX11_layer : ByteArray := prog_13_method_55_code
def yX11_layer : MethodName := ⟨RX11, "layer", "(I)I"⟩
abbrev cX11_most : ByteArray := prog_13_method_56_code
def yX11_most : MethodName := ⟨RX11, "most", "(I)I"⟩
abbrev cX11_offerGap : ByteArray := prog_13_method_57_code
def yX11_offerGap : MethodName := ⟨RX11, "offerGap", "(JJ)V"⟩
abbrev cX11_widest : ByteArray := prog_13_method_58_code
def yX11_widest : MethodName := ⟨RX11, "widest", "(I)J"⟩
abbrev cX11_count : ByteArray := prog_13_method_59_code
def yX11_count : MethodName := ⟨RX11, "count", "(I)I"⟩
abbrev cX11_status : ByteArray := prog_13_method_60_code
def yX11_status : MethodName := ⟨RX11, "status", "()I"⟩
abbrev cL_law : ByteArray := code
abbrev vwCl : List vw_C := [(RX0, TX0, 4), (RX1, TX1, 4), (RX2, TX2, 7), (RX3, TX3, 3), (RX4, TX4, 3), (RX5, TX5, 11), (RX6, TX6, 8), (RX7, TX7, 8), (RX8, TX8, 4), (RX9, TX9, 2), (RX10, TX10, 13), (RX11, TX11, 40)]
end
section
theorem dX0_init_0 : decode cX0_init 0 = .ok (.aload_n 0, 1) := by decide +kernel
theorem dX0_init_1 : decode cX0_init 1 = .ok (.invokespecial 3, 3) := by decide +kernel
theorem dX0_init_4 : decode cX0_init 4 = .ok (.aload_n 0, 1) := by decide +kernel
theorem dX0_init_5 : decode cX0_init 5 = .ok (.bipush 100, 2) := by decide +kernel
theorem dX0_init_7 : decode cX0_init 7 = .ok (.newarray .long, 2) := by decide +kernel
theorem dX0_init_9 : decode cX0_init 9 = .ok (.putfield 9, 3) := by decide +kernel
theorem dX0_init_12 : decode cX0_init 12 = .ok (.return_, 1) := by decide +kernel
theorem dX0_lay_0 : decode cX0_lay 0 = .ok (.aload_n 0, 1) := by decide +kernel
theorem dX0_lay_1 : decode cX0_lay 1 = .ok (.iconst 1, 1) := by decide +kernel
theorem dX0_lay_2 : decode cX0_lay 2 = .ok (.putfield 15, 3) := by decide +kernel
theorem dX0_lay_5 : decode cX0_lay 5 = .ok (.aload_n 0, 1) := by decide +kernel
theorem dX0_lay_6 : decode cX0_lay 6 = .ok (.iload_n 1, 1) := by decide +kernel
theorem dX0_lay_7 : decode cX0_lay 7 = .ok (.putfield 19, 3) := by decide +kernel
theorem dX0_lay_10 : decode cX0_lay 10 = .ok (.aload_n 0, 1) := by decide +kernel
theorem dX0_lay_11 : decode cX0_lay 11 = .ok (.iload_n 2, 1) := by decide +kernel
theorem dX0_lay_12 : decode cX0_lay 12 = .ok (.putfield 23, 3) := by decide +kernel
theorem dX0_lay_15 : decode cX0_lay 15 = .ok (.iconst 0, 1) := by decide +kernel
theorem dX0_lay_16 : decode cX0_lay 16 = .ok (.istore_n 3, 1) := by decide +kernel
theorem dX0_lay_17 : decode cX0_lay 17 = .ok (.iload_n 3, 1) := by decide +kernel
theorem dX0_lay_18 : decode cX0_lay 18 = .ok (.bipush 100, 2) := by decide +kernel
theorem dX0_lay_20 : decode cX0_lay 20 = .ok (.if_icmp .ge 16, 3) := by decide +kernel
theorem dX0_lay_23 : decode cX0_lay 23 = .ok (.aload_n 0, 1) := by decide +kernel
theorem dX0_lay_24 : decode cX0_lay 24 = .ok (.getfield 9, 3) := by decide +kernel
theorem dX0_lay_27 : decode cX0_lay 27 = .ok (.iload_n 3, 1) := by decide +kernel
theorem dX0_lay_28 : decode cX0_lay 28 = .ok (.lconst 0, 1) := by decide +kernel
theorem dX0_lay_29 : decode cX0_lay 29 = .ok (.lastore, 1) := by decide +kernel
theorem dX0_lay_30 : decode cX0_lay 30 = .ok (.iinc 3 1, 3) := by decide +kernel
theorem dX0_lay_33 : decode cX0_lay 33 = .ok (.goto (-16), 3) := by decide +kernel
theorem dX0_lay_36 : decode cX0_lay 36 = .ok (.return_, 1) := by decide +kernel
theorem dX0_has_0 : decode cX0_has 0 = .ok (.iload_n 1, 1) := by decide +kernel
theorem dX0_has_1 : decode cX0_has 1 = .ok (.ifCond .lt 29, 3) := by decide +kernel
theorem dX0_has_4 : decode cX0_has 4 = .ok (.iload_n 2, 1) := by decide +kernel
theorem dX0_has_5 : decode cX0_has 5 = .ok (.ifCond .lt 25, 3) := by decide +kernel
theorem dX0_has_8 : decode cX0_has 8 = .ok (.iload_n 2, 1) := by decide +kernel
theorem dX0_has_9 : decode cX0_has 9 = .ok (.aload_n 0, 1) := by decide +kernel
theorem dX0_has_10 : decode cX0_has 10 = .ok (.getfield 23, 3) := by decide +kernel
theorem dX0_has_13 : decode cX0_has 13 = .ok (.if_icmp .gt 17, 3) := by decide +kernel
theorem dX0_has_16 : decode cX0_has 16 = .ok (.iload_n 1, 1) := by decide +kernel
theorem dX0_has_17 : decode cX0_has 17 = .ok (.aload_n 0, 1) := by decide +kernel
theorem dX0_has_18 : decode cX0_has 18 = .ok (.getfield 23, 3) := by decide +kernel
theorem dX0_has_21 : decode cX0_has 21 = .ok (.iload_n 2, 1) := by decide +kernel
theorem dX0_has_22 : decode cX0_has 22 = .ok (.isub, 1) := by decide +kernel
theorem dX0_has_23 : decode cX0_has 23 = .ok (.if_icmp .gt 7, 3) := by decide +kernel
theorem dX0_has_26 : decode cX0_has 26 = .ok (.iconst 1, 1) := by decide +kernel
theorem dX0_has_27 : decode cX0_has 27 = .ok (.goto 4, 3) := by decide +kernel
theorem dX0_has_30 : decode cX0_has 30 = .ok (.iconst 0, 1) := by decide +kernel
theorem dX0_has_31 : decode cX0_has 31 = .ok (.ireturn, 1) := by decide +kernel
theorem dX0_narrowed_0 : decode cX0_narrowed 0 = .ok (.aload_n 0, 1) := by decide +kernel
theorem dX0_narrowed_1 : decode cX0_narrowed 1 = .ok (.getfield 19, 3) := by decide +kernel
theorem dX0_narrowed_4 : decode cX0_narrowed 4 = .ok (.ifCond .ne 8, 3) := by decide +kernel
theorem dX0_narrowed_7 : decode cX0_narrowed 7 = .ok (.lload_n 1, 1) := by decide +kernel
theorem dX0_narrowed_8 : decode cX0_narrowed 8 = .ok (.l2i, 1) := by decide +kernel
theorem dX0_narrowed_9 : decode cX0_narrowed 9 = .ok (.i2s, 1) := by decide +kernel
theorem dX0_narrowed_10 : decode cX0_narrowed 10 = .ok (.i2l, 1) := by decide +kernel
theorem dX0_narrowed_11 : decode cX0_narrowed 11 = .ok (.lreturn, 1) := by decide +kernel
theorem dX0_narrowed_12 : decode cX0_narrowed 12 = .ok (.aload_n 0, 1) := by decide +kernel
theorem dX0_narrowed_13 : decode cX0_narrowed 13 = .ok (.getfield 19, 3) := by decide +kernel
theorem dX0_narrowed_16 : decode cX0_narrowed 16 = .ok (.iconst 1, 1) := by decide +kernel
theorem dX0_narrowed_17 : decode cX0_narrowed 17 = .ok (.if_icmp .ne 9, 3) := by decide +kernel
theorem dX0_narrowed_20 : decode cX0_narrowed 20 = .ok (.lload_n 1, 1) := by decide +kernel
theorem dX0_narrowed_21 : decode cX0_narrowed 21 = .ok (.l2i, 1) := by decide +kernel
theorem dX0_narrowed_22 : decode cX0_narrowed 22 = .ok (.i2l, 1) := by decide +kernel
theorem dX0_narrowed_23 : decode cX0_narrowed 23 = .ok (.goto 4, 3) := by decide +kernel
theorem dX0_narrowed_26 : decode cX0_narrowed 26 = .ok (.lload_n 1, 1) := by decide +kernel
theorem dX0_narrowed_27 : decode cX0_narrowed 27 = .ok (.lreturn, 1) := by decide +kernel
theorem dX1_init_0 : decode cX1_init 0 = .ok (.aload_n 0, 1) := by decide +kernel
theorem dX1_init_1 : decode cX1_init 1 = .ok (.invokespecial 1, 3) := by decide +kernel
theorem dX1_init_4 : decode cX1_init 4 = .ok (.aload_n 0, 1) := by decide +kernel
theorem dX1_init_5 : decode cX1_init 5 = .ok (.new 7, 3) := by decide +kernel
theorem dX1_init_8 : decode cX1_init 8 = .ok (.dup, 1) := by decide +kernel
theorem dX1_init_9 : decode cX1_init 9 = .ok (.invokespecial 9, 3) := by decide +kernel
theorem dX1_init_12 : decode cX1_init 12 = .ok (.putfield 10, 3) := by decide +kernel
theorem dX1_init_15 : decode cX1_init 15 = .ok (.return_, 1) := by decide +kernel
theorem dX2_init_0 : decode cX2_init 0 = .ok (.aload_n 0, 1) := by decide +kernel
theorem dX2_init_1 : decode cX2_init 1 = .ok (.invokespecial 3, 3) := by decide +kernel
theorem dX2_init_4 : decode cX2_init 4 = .ok (.aload_n 0, 1) := by decide +kernel
theorem dX2_init_5 : decode cX2_init 5 = .ok (.bipush 40, 2) := by decide +kernel
theorem dX2_init_7 : decode cX2_init 7 = .ok (.newarray .long, 2) := by decide +kernel
theorem dX2_init_9 : decode cX2_init 9 = .ok (.putfield 9, 3) := by decide +kernel
theorem dX2_init_12 : decode cX2_init 12 = .ok (.aload_n 0, 1) := by decide +kernel
theorem dX2_init_13 : decode cX2_init 13 = .ok (.bipush 40, 2) := by decide +kernel
theorem dX2_init_15 : decode cX2_init 15 = .ok (.newarray .long, 2) := by decide +kernel
theorem dX2_init_17 : decode cX2_init 17 = .ok (.putfield 15, 3) := by decide +kernel
theorem dX2_init_20 : decode cX2_init 20 = .ok (.return_, 1) := by decide +kernel
theorem dX2_depthAt_0 : decode cX2_depthAt 0 = .ok (.iconst 0, 1) := by decide +kernel
theorem dX2_depthAt_1 : decode cX2_depthAt 1 = .ok (.istore 9, 2) := by decide +kernel
theorem dX2_depthAt_3 : decode cX2_depthAt 3 = .ok (.iconst 0, 1) := by decide +kernel
theorem dX2_depthAt_4 : decode cX2_depthAt 4 = .ok (.istore 10, 2) := by decide +kernel
theorem dX2_depthAt_6 : decode cX2_depthAt 6 = .ok (.iload 10, 2) := by decide +kernel
theorem dX2_depthAt_8 : decode cX2_depthAt 8 = .ok (.aload_n 1, 1) := by decide +kernel
theorem dX2_depthAt_9 : decode cX2_depthAt 9 = .ok (.getfield 18, 3) := by decide +kernel
theorem dX2_depthAt_12 : decode cX2_depthAt 12 = .ok (.if_icmp .ge 71, 3) := by decide +kernel
theorem dX2_depthAt_15 : decode cX2_depthAt 15 = .ok (.aload_n 0, 1) := by decide +kernel
theorem dX2_depthAt_16 : decode cX2_depthAt 16 = .ok (.getfield 9, 3) := by decide +kernel
theorem dX2_depthAt_19 : decode cX2_depthAt 19 = .ok (.iload 10, 2) := by decide +kernel
theorem dX2_depthAt_21 : decode cX2_depthAt 21 = .ok (.aload_n 1, 1) := by decide +kernel
theorem dX2_depthAt_22 : decode cX2_depthAt 22 = .ok (.getfield 24, 3) := by decide +kernel
theorem dX2_depthAt_25 : decode cX2_depthAt 25 = .ok (.iload 10, 2) := by decide +kernel
theorem dX2_depthAt_27 : decode cX2_depthAt 27 = .ok (.iaload, 1) := by decide +kernel
theorem dX2_depthAt_28 : decode cX2_depthAt 28 = .ok (.i2l, 1) := by decide +kernel
theorem dX2_depthAt_29 : decode cX2_depthAt 29 = .ok (.lload 6, 2) := by decide +kernel
theorem dX2_depthAt_31 : decode cX2_depthAt 31 = .ok (.lmul, 1) := by decide +kernel
theorem dX2_depthAt_32 : decode cX2_depthAt 32 = .ok (.lload_n 2, 1) := by decide +kernel
theorem dX2_depthAt_33 : decode cX2_depthAt 33 = .ok (.lsub, 1) := by decide +kernel
theorem dX2_depthAt_34 : decode cX2_depthAt 34 = .ok (.lastore, 1) := by decide +kernel
theorem dX2_depthAt_35 : decode cX2_depthAt 35 = .ok (.aload_n 0, 1) := by decide +kernel
theorem dX2_depthAt_36 : decode cX2_depthAt 36 = .ok (.getfield 15, 3) := by decide +kernel
theorem dX2_depthAt_39 : decode cX2_depthAt 39 = .ok (.iload 10, 2) := by decide +kernel
theorem dX2_depthAt_41 : decode cX2_depthAt 41 = .ok (.aload_n 1, 1) := by decide +kernel
theorem dX2_depthAt_42 : decode cX2_depthAt 42 = .ok (.getfield 28, 3) := by decide +kernel
theorem dX2_depthAt_45 : decode cX2_depthAt 45 = .ok (.iload 10, 2) := by decide +kernel
theorem dX2_depthAt_47 : decode cX2_depthAt 47 = .ok (.iaload, 1) := by decide +kernel
theorem dX2_depthAt_48 : decode cX2_depthAt 48 = .ok (.i2l, 1) := by decide +kernel
theorem dX2_depthAt_49 : decode cX2_depthAt 49 = .ok (.lload 6, 2) := by decide +kernel
theorem dX2_depthAt_51 : decode cX2_depthAt 51 = .ok (.lmul, 1) := by decide +kernel
theorem dX2_depthAt_52 : decode cX2_depthAt 52 = .ok (.lload 4, 2) := by decide +kernel
theorem dX2_depthAt_54 : decode cX2_depthAt 54 = .ok (.lsub, 1) := by decide +kernel
theorem dX2_depthAt_55 : decode cX2_depthAt 55 = .ok (.lastore, 1) := by decide +kernel
theorem dX2_depthAt_56 : decode cX2_depthAt 56 = .ok (.aload_n 0, 1) := by decide +kernel
theorem dX2_depthAt_57 : decode cX2_depthAt 57 = .ok (.iload 10, 2) := by decide +kernel
theorem dX2_depthAt_59 : decode cX2_depthAt 59 = .ok (.invokevirtual 31, 3) := by decide +kernel
theorem dX2_depthAt_62 : decode cX2_depthAt 62 = .ok (.ifCond .eq 15, 3) := by decide +kernel
theorem dX2_depthAt_65 : decode cX2_depthAt 65 = .ok (.iload 9, 2) := by decide +kernel
theorem dX2_depthAt_67 : decode cX2_depthAt 67 = .ok (.aload_n 1, 1) := by decide +kernel
theorem dX2_depthAt_68 : decode cX2_depthAt 68 = .ok (.getfield 35, 3) := by decide +kernel
theorem dX2_depthAt_71 : decode cX2_depthAt 71 = .ok (.iload 10, 2) := by decide +kernel
theorem dX2_depthAt_73 : decode cX2_depthAt 73 = .ok (.iaload, 1) := by decide +kernel
theorem dX2_depthAt_74 : decode cX2_depthAt 74 = .ok (.iadd, 1) := by decide +kernel
theorem dX2_depthAt_75 : decode cX2_depthAt 75 = .ok (.istore 9, 2) := by decide +kernel
theorem dX2_depthAt_77 : decode cX2_depthAt 77 = .ok (.iinc 10 1, 3) := by decide +kernel
theorem dX2_depthAt_80 : decode cX2_depthAt 80 = .ok (.goto (-74), 3) := by decide +kernel
theorem dX2_depthAt_83 : decode cX2_depthAt 83 = .ok (.aload_n 1, 1) := by decide +kernel
theorem dX2_depthAt_84 : decode cX2_depthAt 84 = .ok (.iconst 2, 1) := by decide +kernel
theorem dX2_depthAt_85 : decode cX2_depthAt 85 = .ok (.invokevirtual 38, 3) := by decide +kernel
theorem dX2_depthAt_88 : decode cX2_depthAt 88 = .ok (.istore 10, 2) := by decide +kernel
theorem dX2_depthAt_90 : decode cX2_depthAt 90 = .ok (.iconst 0, 1) := by decide +kernel
theorem dX2_depthAt_91 : decode cX2_depthAt 91 = .ok (.istore 11, 2) := by decide +kernel
theorem dX2_depthAt_93 : decode cX2_depthAt 93 = .ok (.iload 11, 2) := by decide +kernel
theorem dX2_depthAt_95 : decode cX2_depthAt 95 = .ok (.aload_n 1, 1) := by decide +kernel
theorem dX2_depthAt_96 : decode cX2_depthAt 96 = .ok (.getfield 18, 3) := by decide +kernel
theorem dX2_depthAt_99 : decode cX2_depthAt 99 = .ok (.if_icmp .ge 42, 3) := by decide +kernel
theorem dX2_depthAt_102 : decode cX2_depthAt 102 = .ok (.iload 10, 2) := by decide +kernel
theorem dX2_depthAt_104 : decode cX2_depthAt 104 = .ok (.iload 8, 2) := by decide +kernel
theorem dX2_depthAt_106 : decode cX2_depthAt 106 = .ok (.if_icmp .lt 35, 3) := by decide +kernel
theorem dX2_depthAt_109 : decode cX2_depthAt 109 = .ok (.aload_n 0, 1) := by decide +kernel
theorem dX2_depthAt_110 : decode cX2_depthAt 110 = .ok (.iload 11, 2) := by decide +kernel
theorem dX2_depthAt_112 : decode cX2_depthAt 112 = .ok (.invokevirtual 31, 3) := by decide +kernel
theorem dX2_depthAt_115 : decode cX2_depthAt 115 = .ok (.ifCond .ne 20, 3) := by decide +kernel
theorem dX2_depthAt_118 : decode cX2_depthAt 118 = .ok (.iload 10, 2) := by decide +kernel
theorem dX2_depthAt_120 : decode cX2_depthAt 120 = .ok (.iload 9, 2) := by decide +kernel
theorem dX2_depthAt_122 : decode cX2_depthAt 122 = .ok (.aload_n 0, 1) := by decide +kernel
theorem dX2_depthAt_123 : decode cX2_depthAt 123 = .ok (.aload_n 1, 1) := by decide +kernel
theorem dX2_depthAt_124 : decode cX2_depthAt 124 = .ok (.iload 11, 2) := by decide +kernel
theorem dX2_depthAt_126 : decode cX2_depthAt 126 = .ok (.invokevirtual 42, 3) := by decide +kernel
theorem dX2_depthAt_129 : decode cX2_depthAt 129 = .ok (.iadd, 1) := by decide +kernel
theorem dX2_depthAt_130 : decode cX2_depthAt 130 = .ok (.invokestatic 46, 3) := by decide +kernel
theorem dX2_depthAt_133 : decode cX2_depthAt 133 = .ok (.istore 10, 2) := by decide +kernel
theorem dX2_depthAt_135 : decode cX2_depthAt 135 = .ok (.iinc 11 1, 3) := by decide +kernel
theorem dX2_depthAt_138 : decode cX2_depthAt 138 = .ok (.goto (-45), 3) := by decide +kernel
theorem dX2_depthAt_141 : decode cX2_depthAt 141 = .ok (.iload 10, 2) := by decide +kernel
theorem dX2_depthAt_143 : decode cX2_depthAt 143 = .ok (.ireturn, 1) := by decide +kernel
theorem dX2_isHere_0 : decode cX2_isHere 0 = .ok (.aload_n 0, 1) := by decide +kernel
theorem dX2_isHere_1 : decode cX2_isHere 1 = .ok (.getfield 9, 3) := by decide +kernel
theorem dX2_isHere_4 : decode cX2_isHere 4 = .ok (.iload_n 1, 1) := by decide +kernel
theorem dX2_isHere_5 : decode cX2_isHere 5 = .ok (.laload, 1) := by decide +kernel
theorem dX2_isHere_6 : decode cX2_isHere 6 = .ok (.lconst 0, 1) := by decide +kernel
theorem dX2_isHere_7 : decode cX2_isHere 7 = .ok (.lcmp, 1) := by decide +kernel
theorem dX2_isHere_8 : decode cX2_isHere 8 = .ok (.ifCond .ne 18, 3) := by decide +kernel
theorem dX2_isHere_11 : decode cX2_isHere 11 = .ok (.aload_n 0, 1) := by decide +kernel
theorem dX2_isHere_12 : decode cX2_isHere 12 = .ok (.getfield 15, 3) := by decide +kernel
theorem dX2_isHere_15 : decode cX2_isHere 15 = .ok (.iload_n 1, 1) := by decide +kernel
theorem dX2_isHere_16 : decode cX2_isHere 16 = .ok (.laload, 1) := by decide +kernel
theorem dX2_isHere_17 : decode cX2_isHere 17 = .ok (.lconst 0, 1) := by decide +kernel
theorem dX2_isHere_18 : decode cX2_isHere 18 = .ok (.lcmp, 1) := by decide +kernel
theorem dX2_isHere_19 : decode cX2_isHere 19 = .ok (.ifCond .ne 7, 3) := by decide +kernel
theorem dX2_isHere_22 : decode cX2_isHere 22 = .ok (.iconst 1, 1) := by decide +kernel
theorem dX2_isHere_23 : decode cX2_isHere 23 = .ok (.goto 4, 3) := by decide +kernel
theorem dX2_isHere_26 : decode cX2_isHere 26 = .ok (.iconst 0, 1) := by decide +kernel
theorem dX2_isHere_27 : decode cX2_isHere 27 = .ok (.ireturn, 1) := by decide +kernel
theorem dX2_leastBeside_0 : decode cX2_leastBeside 0 = .ok (.iconst 0, 1) := by decide +kernel
theorem dX2_leastBeside_1 : decode cX2_leastBeside 1 = .ok (.istore_n 3, 1) := by decide +kernel
theorem dX2_leastBeside_2 : decode cX2_leastBeside 2 = .ok (.iconst 0, 1) := by decide +kernel
theorem dX2_leastBeside_3 : decode cX2_leastBeside 3 = .ok (.istore 4, 2) := by decide +kernel
theorem dX2_leastBeside_5 : decode cX2_leastBeside 5 = .ok (.iconst 0, 1) := by decide +kernel
theorem dX2_leastBeside_6 : decode cX2_leastBeside 6 = .ok (.istore 5, 2) := by decide +kernel
theorem dX2_leastBeside_8 : decode cX2_leastBeside 8 = .ok (.iconst 0, 1) := by decide +kernel
theorem dX2_leastBeside_9 : decode cX2_leastBeside 9 = .ok (.istore 6, 2) := by decide +kernel
theorem dX2_leastBeside_11 : decode cX2_leastBeside 11 = .ok (.iconst 0, 1) := by decide +kernel
theorem dX2_leastBeside_12 : decode cX2_leastBeside 12 = .ok (.istore 7, 2) := by decide +kernel
theorem dX2_leastBeside_14 : decode cX2_leastBeside 14 = .ok (.iload 7, 2) := by decide +kernel
theorem dX2_leastBeside_16 : decode cX2_leastBeside 16 = .ok (.aload_n 1, 1) := by decide +kernel
theorem dX2_leastBeside_17 : decode cX2_leastBeside 17 = .ok (.getfield 18, 3) := by decide +kernel
theorem dX2_leastBeside_20 : decode cX2_leastBeside 20 = .ok (.if_icmp .ge 154, 3) := by decide +kernel
theorem dX2_leastBeside_23 : decode cX2_leastBeside 23 = .ok (.aload_n 0, 1) := by decide +kernel
theorem dX2_leastBeside_24 : decode cX2_leastBeside 24 = .ok (.getfield 9, 3) := by decide +kernel
theorem dX2_leastBeside_27 : decode cX2_leastBeside 27 = .ok (.iload_n 2, 1) := by decide +kernel
theorem dX2_leastBeside_28 : decode cX2_leastBeside 28 = .ok (.laload, 1) := by decide +kernel
theorem dX2_leastBeside_29 : decode cX2_leastBeside 29 = .ok (.aload_n 0, 1) := by decide +kernel
theorem dX2_leastBeside_30 : decode cX2_leastBeside 30 = .ok (.getfield 15, 3) := by decide +kernel
theorem dX2_leastBeside_33 : decode cX2_leastBeside 33 = .ok (.iload 7, 2) := by decide +kernel
theorem dX2_leastBeside_35 : decode cX2_leastBeside 35 = .ok (.laload, 1) := by decide +kernel
theorem dX2_leastBeside_36 : decode cX2_leastBeside 36 = .ok (.lmul, 1) := by decide +kernel
theorem dX2_leastBeside_37 : decode cX2_leastBeside 37 = .ok (.aload_n 0, 1) := by decide +kernel
theorem dX2_leastBeside_38 : decode cX2_leastBeside 38 = .ok (.getfield 15, 3) := by decide +kernel
theorem dX2_leastBeside_41 : decode cX2_leastBeside 41 = .ok (.iload_n 2, 1) := by decide +kernel
theorem dX2_leastBeside_42 : decode cX2_leastBeside 42 = .ok (.laload, 1) := by decide +kernel
theorem dX2_leastBeside_43 : decode cX2_leastBeside 43 = .ok (.aload_n 0, 1) := by decide +kernel
theorem dX2_leastBeside_44 : decode cX2_leastBeside 44 = .ok (.getfield 9, 3) := by decide +kernel
theorem dX2_leastBeside_47 : decode cX2_leastBeside 47 = .ok (.iload 7, 2) := by decide +kernel
theorem dX2_leastBeside_49 : decode cX2_leastBeside 49 = .ok (.laload, 1) := by decide +kernel
theorem dX2_leastBeside_50 : decode cX2_leastBeside 50 = .ok (.lmul, 1) := by decide +kernel
theorem dX2_leastBeside_51 : decode cX2_leastBeside 51 = .ok (.lsub, 1) := by decide +kernel
theorem dX2_leastBeside_52 : decode cX2_leastBeside 52 = .ok (.lstore 8, 2) := by decide +kernel
theorem dX2_leastBeside_54 : decode cX2_leastBeside 54 = .ok (.aload_n 0, 1) := by decide +kernel
theorem dX2_leastBeside_55 : decode cX2_leastBeside 55 = .ok (.getfield 9, 3) := by decide +kernel
theorem dX2_leastBeside_58 : decode cX2_leastBeside 58 = .ok (.iload_n 2, 1) := by decide +kernel
theorem dX2_leastBeside_59 : decode cX2_leastBeside 59 = .ok (.laload, 1) := by decide +kernel
theorem dX2_leastBeside_60 : decode cX2_leastBeside 60 = .ok (.aload_n 0, 1) := by decide +kernel
theorem dX2_leastBeside_61 : decode cX2_leastBeside 61 = .ok (.getfield 9, 3) := by decide +kernel
theorem dX2_leastBeside_64 : decode cX2_leastBeside 64 = .ok (.iload 7, 2) := by decide +kernel
theorem dX2_leastBeside_66 : decode cX2_leastBeside 66 = .ok (.laload, 1) := by decide +kernel
theorem dX2_leastBeside_67 : decode cX2_leastBeside 67 = .ok (.lmul, 1) := by decide +kernel
theorem dX2_leastBeside_68 : decode cX2_leastBeside 68 = .ok (.aload_n 0, 1) := by decide +kernel
theorem dX2_leastBeside_69 : decode cX2_leastBeside 69 = .ok (.getfield 15, 3) := by decide +kernel
theorem dX2_leastBeside_72 : decode cX2_leastBeside 72 = .ok (.iload_n 2, 1) := by decide +kernel
theorem dX2_leastBeside_73 : decode cX2_leastBeside 73 = .ok (.laload, 1) := by decide +kernel
theorem dX2_leastBeside_74 : decode cX2_leastBeside 74 = .ok (.aload_n 0, 1) := by decide +kernel
theorem dX2_leastBeside_75 : decode cX2_leastBeside 75 = .ok (.getfield 15, 3) := by decide +kernel
theorem dX2_leastBeside_78 : decode cX2_leastBeside 78 = .ok (.iload 7, 2) := by decide +kernel
theorem dX2_leastBeside_80 : decode cX2_leastBeside 80 = .ok (.laload, 1) := by decide +kernel
theorem dX2_leastBeside_81 : decode cX2_leastBeside 81 = .ok (.lmul, 1) := by decide +kernel
theorem dX2_leastBeside_82 : decode cX2_leastBeside 82 = .ok (.ladd, 1) := by decide +kernel
theorem dX2_leastBeside_83 : decode cX2_leastBeside 83 = .ok (.lstore 10, 2) := by decide +kernel
theorem dX2_leastBeside_85 : decode cX2_leastBeside 85 = .ok (.lload 8, 2) := by decide +kernel
theorem dX2_leastBeside_87 : decode cX2_leastBeside 87 = .ok (.lconst 0, 1) := by decide +kernel
theorem dX2_leastBeside_88 : decode cX2_leastBeside 88 = .ok (.lcmp, 1) := by decide +kernel
theorem dX2_leastBeside_89 : decode cX2_leastBeside 89 = .ok (.ifCond .le 16, 3) := by decide +kernel
theorem dX2_leastBeside_92 : decode cX2_leastBeside 92 = .ok (.iload_n 3, 1) := by decide +kernel
theorem dX2_leastBeside_93 : decode cX2_leastBeside 93 = .ok (.aload_n 1, 1) := by decide +kernel
theorem dX2_leastBeside_94 : decode cX2_leastBeside 94 = .ok (.getfield 35, 3) := by decide +kernel
theorem dX2_leastBeside_97 : decode cX2_leastBeside 97 = .ok (.iload 7, 2) := by decide +kernel
theorem dX2_leastBeside_99 : decode cX2_leastBeside 99 = .ok (.iaload, 1) := by decide +kernel
theorem dX2_leastBeside_100 : decode cX2_leastBeside 100 = .ok (.iadd, 1) := by decide +kernel
theorem dX2_leastBeside_101 : decode cX2_leastBeside 101 = .ok (.istore_n 3, 1) := by decide +kernel
theorem dX2_leastBeside_102 : decode cX2_leastBeside 102 = .ok (.goto 66, 3) := by decide +kernel
theorem dX2_leastBeside_105 : decode cX2_leastBeside 105 = .ok (.lload 8, 2) := by decide +kernel
theorem dX2_leastBeside_107 : decode cX2_leastBeside 107 = .ok (.lconst 0, 1) := by decide +kernel
theorem dX2_leastBeside_108 : decode cX2_leastBeside 108 = .ok (.lcmp, 1) := by decide +kernel
theorem dX2_leastBeside_109 : decode cX2_leastBeside 109 = .ok (.ifCond .ge 18, 3) := by decide +kernel
theorem dX2_leastBeside_112 : decode cX2_leastBeside 112 = .ok (.iload 4, 2) := by decide +kernel
theorem dX2_leastBeside_114 : decode cX2_leastBeside 114 = .ok (.aload_n 1, 1) := by decide +kernel
theorem dX2_leastBeside_115 : decode cX2_leastBeside 115 = .ok (.getfield 35, 3) := by decide +kernel
theorem dX2_leastBeside_118 : decode cX2_leastBeside 118 = .ok (.iload 7, 2) := by decide +kernel
theorem dX2_leastBeside_120 : decode cX2_leastBeside 120 = .ok (.iaload, 1) := by decide +kernel
theorem dX2_leastBeside_121 : decode cX2_leastBeside 121 = .ok (.iadd, 1) := by decide +kernel
theorem dX2_leastBeside_122 : decode cX2_leastBeside 122 = .ok (.istore 4, 2) := by decide +kernel
theorem dX2_leastBeside_124 : decode cX2_leastBeside 124 = .ok (.goto 44, 3) := by decide +kernel
theorem dX2_leastBeside_127 : decode cX2_leastBeside 127 = .ok (.lload 10, 2) := by decide +kernel
theorem dX2_leastBeside_129 : decode cX2_leastBeside 129 = .ok (.lconst 0, 1) := by decide +kernel
theorem dX2_leastBeside_130 : decode cX2_leastBeside 130 = .ok (.lcmp, 1) := by decide +kernel
theorem dX2_leastBeside_131 : decode cX2_leastBeside 131 = .ok (.ifCond .le 18, 3) := by decide +kernel
theorem dX2_leastBeside_134 : decode cX2_leastBeside 134 = .ok (.iload 5, 2) := by decide +kernel
theorem dX2_leastBeside_136 : decode cX2_leastBeside 136 = .ok (.aload_n 1, 1) := by decide +kernel
theorem dX2_leastBeside_137 : decode cX2_leastBeside 137 = .ok (.getfield 35, 3) := by decide +kernel
theorem dX2_leastBeside_140 : decode cX2_leastBeside 140 = .ok (.iload 7, 2) := by decide +kernel
theorem dX2_leastBeside_142 : decode cX2_leastBeside 142 = .ok (.iaload, 1) := by decide +kernel
theorem dX2_leastBeside_143 : decode cX2_leastBeside 143 = .ok (.iadd, 1) := by decide +kernel
theorem dX2_leastBeside_144 : decode cX2_leastBeside 144 = .ok (.istore 5, 2) := by decide +kernel
theorem dX2_leastBeside_146 : decode cX2_leastBeside 146 = .ok (.goto 22, 3) := by decide +kernel
theorem dX2_leastBeside_149 : decode cX2_leastBeside 149 = .ok (.lload 10, 2) := by decide +kernel
theorem dX2_leastBeside_151 : decode cX2_leastBeside 151 = .ok (.lconst 0, 1) := by decide +kernel
theorem dX2_leastBeside_152 : decode cX2_leastBeside 152 = .ok (.lcmp, 1) := by decide +kernel
theorem dX2_leastBeside_153 : decode cX2_leastBeside 153 = .ok (.ifCond .ge 15, 3) := by decide +kernel
theorem dX2_leastBeside_156 : decode cX2_leastBeside 156 = .ok (.iload 6, 2) := by decide +kernel
theorem dX2_leastBeside_158 : decode cX2_leastBeside 158 = .ok (.aload_n 1, 1) := by decide +kernel
theorem dX2_leastBeside_159 : decode cX2_leastBeside 159 = .ok (.getfield 35, 3) := by decide +kernel
theorem dX2_leastBeside_162 : decode cX2_leastBeside 162 = .ok (.iload 7, 2) := by decide +kernel
theorem dX2_leastBeside_164 : decode cX2_leastBeside 164 = .ok (.iaload, 1) := by decide +kernel
theorem dX2_leastBeside_165 : decode cX2_leastBeside 165 = .ok (.iadd, 1) := by decide +kernel
theorem dX2_leastBeside_166 : decode cX2_leastBeside 166 = .ok (.istore 6, 2) := by decide +kernel
theorem dX2_leastBeside_168 : decode cX2_leastBeside 168 = .ok (.iinc 7 1, 3) := by decide +kernel
theorem dX2_leastBeside_171 : decode cX2_leastBeside 171 = .ok (.goto (-157), 3) := by decide +kernel
theorem dX2_leastBeside_174 : decode cX2_leastBeside 174 = .ok (.iload_n 3, 1) := by decide +kernel
theorem dX2_leastBeside_175 : decode cX2_leastBeside 175 = .ok (.iload 4, 2) := by decide +kernel
theorem dX2_leastBeside_177 : decode cX2_leastBeside 177 = .ok (.invokestatic 46, 3) := by decide +kernel
theorem dX2_leastBeside_180 : decode cX2_leastBeside 180 = .ok (.iload 5, 2) := by decide +kernel
theorem dX2_leastBeside_182 : decode cX2_leastBeside 182 = .ok (.iload 6, 2) := by decide +kernel
theorem dX2_leastBeside_184 : decode cX2_leastBeside 184 = .ok (.invokestatic 46, 3) := by decide +kernel
theorem dX2_leastBeside_187 : decode cX2_leastBeside 187 = .ok (.iadd, 1) := by decide +kernel
theorem dX2_leastBeside_188 : decode cX2_leastBeside 188 = .ok (.ireturn, 1) := by decide +kernel
theorem dX2_findDeepest_0 : decode cX2_findDeepest 0 = .ok (.aload_n 0, 1) := by decide +kernel
theorem dX2_findDeepest_1 : decode cX2_findDeepest 1 = .ok (.iconst 0, 1) := by decide +kernel
theorem dX2_findDeepest_2 : decode cX2_findDeepest 2 = .ok (.putfield 52, 3) := by decide +kernel
theorem dX2_findDeepest_5 : decode cX2_findDeepest 5 = .ok (.aload_n 0, 1) := by decide +kernel
theorem dX2_findDeepest_6 : decode cX2_findDeepest 6 = .ok (.lconst 0, 1) := by decide +kernel
theorem dX2_findDeepest_7 : decode cX2_findDeepest 7 = .ok (.putfield 55, 3) := by decide +kernel
theorem dX2_findDeepest_10 : decode cX2_findDeepest 10 = .ok (.aload_n 0, 1) := by decide +kernel
theorem dX2_findDeepest_11 : decode cX2_findDeepest 11 = .ok (.lconst 0, 1) := by decide +kernel
theorem dX2_findDeepest_12 : decode cX2_findDeepest 12 = .ok (.putfield 58, 3) := by decide +kernel
theorem dX2_findDeepest_15 : decode cX2_findDeepest 15 = .ok (.aload_n 0, 1) := by decide +kernel
theorem dX2_findDeepest_16 : decode cX2_findDeepest 16 = .ok (.lconst 1, 1) := by decide +kernel
theorem dX2_findDeepest_17 : decode cX2_findDeepest 17 = .ok (.putfield 60, 3) := by decide +kernel
theorem dX2_findDeepest_20 : decode cX2_findDeepest 20 = .ok (.iconst 0, 1) := by decide +kernel
theorem dX2_findDeepest_21 : decode cX2_findDeepest 21 = .ok (.istore_n 3, 1) := by decide +kernel
theorem dX2_findDeepest_22 : decode cX2_findDeepest 22 = .ok (.iload_n 3, 1) := by decide +kernel
theorem dX2_findDeepest_23 : decode cX2_findDeepest 23 = .ok (.aload_n 1, 1) := by decide +kernel
theorem dX2_findDeepest_24 : decode cX2_findDeepest 24 = .ok (.getfield 18, 3) := by decide +kernel
theorem dX2_findDeepest_27 : decode cX2_findDeepest 27 = .ok (.if_icmp .ge 29, 3) := by decide +kernel
theorem dX2_findDeepest_30 : decode cX2_findDeepest 30 = .ok (.aload_n 0, 1) := by decide +kernel
theorem dX2_findDeepest_31 : decode cX2_findDeepest 31 = .ok (.aload_n 1, 1) := by decide +kernel
theorem dX2_findDeepest_32 : decode cX2_findDeepest 32 = .ok (.aload_n 1, 1) := by decide +kernel
theorem dX2_findDeepest_33 : decode cX2_findDeepest 33 = .ok (.getfield 24, 3) := by decide +kernel
theorem dX2_findDeepest_36 : decode cX2_findDeepest 36 = .ok (.iload_n 3, 1) := by decide +kernel
theorem dX2_findDeepest_37 : decode cX2_findDeepest 37 = .ok (.iaload, 1) := by decide +kernel
theorem dX2_findDeepest_38 : decode cX2_findDeepest 38 = .ok (.i2l, 1) := by decide +kernel
theorem dX2_findDeepest_39 : decode cX2_findDeepest 39 = .ok (.aload_n 1, 1) := by decide +kernel
theorem dX2_findDeepest_40 : decode cX2_findDeepest 40 = .ok (.getfield 28, 3) := by decide +kernel
theorem dX2_findDeepest_43 : decode cX2_findDeepest 43 = .ok (.iload_n 3, 1) := by decide +kernel
theorem dX2_findDeepest_44 : decode cX2_findDeepest 44 = .ok (.iaload, 1) := by decide +kernel
theorem dX2_findDeepest_45 : decode cX2_findDeepest 45 = .ok (.i2l, 1) := by decide +kernel
theorem dX2_findDeepest_46 : decode cX2_findDeepest 46 = .ok (.lconst 1, 1) := by decide +kernel
theorem dX2_findDeepest_47 : decode cX2_findDeepest 47 = .ok (.invokevirtual 63, 3) := by decide +kernel
theorem dX2_findDeepest_50 : decode cX2_findDeepest 50 = .ok (.iinc 3 1, 3) := by decide +kernel
theorem dX2_findDeepest_53 : decode cX2_findDeepest 53 = .ok (.goto (-31), 3) := by decide +kernel
theorem dX2_findDeepest_56 : decode cX2_findDeepest 56 = .ok (.iconst 0, 1) := by decide +kernel
theorem dX2_findDeepest_57 : decode cX2_findDeepest 57 = .ok (.istore_n 3, 1) := by decide +kernel
theorem dX2_findDeepest_58 : decode cX2_findDeepest 58 = .ok (.iload_n 3, 1) := by decide +kernel
theorem dX2_findDeepest_59 : decode cX2_findDeepest 59 = .ok (.aload_n 2, 1) := by decide +kernel
theorem dX2_findDeepest_60 : decode cX2_findDeepest 60 = .ok (.getfield 67, 3) := by decide +kernel
theorem dX2_findDeepest_63 : decode cX2_findDeepest 63 = .ok (.if_icmp .ge 38, 3) := by decide +kernel
theorem dX2_findDeepest_66 : decode cX2_findDeepest 66 = .ok (.iload_n 3, 1) := by decide +kernel
theorem dX2_findDeepest_67 : decode cX2_findDeepest 67 = .ok (.iconst 1, 1) := by decide +kernel
theorem dX2_findDeepest_68 : decode cX2_findDeepest 68 = .ok (.iadd, 1) := by decide +kernel
theorem dX2_findDeepest_69 : decode cX2_findDeepest 69 = .ok (.istore 4, 2) := by decide +kernel
theorem dX2_findDeepest_71 : decode cX2_findDeepest 71 = .ok (.iload 4, 2) := by decide +kernel
theorem dX2_findDeepest_73 : decode cX2_findDeepest 73 = .ok (.aload_n 2, 1) := by decide +kernel
theorem dX2_findDeepest_74 : decode cX2_findDeepest 74 = .ok (.getfield 67, 3) := by decide +kernel
theorem dX2_findDeepest_77 : decode cX2_findDeepest 77 = .ok (.if_icmp .ge 18, 3) := by decide +kernel
theorem dX2_findDeepest_80 : decode cX2_findDeepest 80 = .ok (.aload_n 0, 1) := by decide +kernel
theorem dX2_findDeepest_81 : decode cX2_findDeepest 81 = .ok (.aload_n 1, 1) := by decide +kernel
theorem dX2_findDeepest_82 : decode cX2_findDeepest 82 = .ok (.aload_n 2, 1) := by decide +kernel
theorem dX2_findDeepest_83 : decode cX2_findDeepest 83 = .ok (.iload_n 3, 1) := by decide +kernel
theorem dX2_findDeepest_84 : decode cX2_findDeepest 84 = .ok (.iload 4, 2) := by decide +kernel
theorem dX2_findDeepest_86 : decode cX2_findDeepest 86 = .ok (.invokevirtual 70, 3) := by decide +kernel
theorem dX2_findDeepest_89 : decode cX2_findDeepest 89 = .ok (.iinc 4 1, 3) := by decide +kernel
theorem dX2_findDeepest_92 : decode cX2_findDeepest 92 = .ok (.goto (-21), 3) := by decide +kernel
theorem dX2_findDeepest_95 : decode cX2_findDeepest 95 = .ok (.iinc 3 1, 3) := by decide +kernel
theorem dX2_findDeepest_98 : decode cX2_findDeepest 98 = .ok (.goto (-40), 3) := by decide +kernel
theorem dX2_findDeepest_101 : decode cX2_findDeepest 101 = .ok (.aload_n 0, 1) := by decide +kernel
theorem dX2_findDeepest_102 : decode cX2_findDeepest 102 = .ok (.iconst 1, 1) := by decide +kernel
theorem dX2_findDeepest_103 : decode cX2_findDeepest 103 = .ok (.putfield 74, 3) := by decide +kernel
theorem dX2_findDeepest_106 : decode cX2_findDeepest 106 = .ok (.return_, 1) := by decide +kernel
theorem dX2_considerCrossing_0 : decode cX2_considerCrossing 0 = .ok (.aload_n 2, 1) := by decide +kernel
theorem dX2_considerCrossing_1 : decode cX2_considerCrossing 1 = .ok (.getfield 78, 3) := by decide +kernel
theorem dX2_considerCrossing_4 : decode cX2_considerCrossing 4 = .ok (.iload_n 3, 1) := by decide +kernel
theorem dX2_considerCrossing_5 : decode cX2_considerCrossing 5 = .ok (.iaload, 1) := by decide +kernel
theorem dX2_considerCrossing_6 : decode cX2_considerCrossing 6 = .ok (.i2l, 1) := by decide +kernel
theorem dX2_considerCrossing_7 : decode cX2_considerCrossing 7 = .ok (.aload_n 2, 1) := by decide +kernel
theorem dX2_considerCrossing_8 : decode cX2_considerCrossing 8 = .ok (.getfield 81, 3) := by decide +kernel
theorem dX2_considerCrossing_11 : decode cX2_considerCrossing 11 = .ok (.iload 4, 2) := by decide +kernel
theorem dX2_considerCrossing_13 : decode cX2_considerCrossing 13 = .ok (.iaload, 1) := by decide +kernel
theorem dX2_considerCrossing_14 : decode cX2_considerCrossing 14 = .ok (.i2l, 1) := by decide +kernel
theorem dX2_considerCrossing_15 : decode cX2_considerCrossing 15 = .ok (.lmul, 1) := by decide +kernel
theorem dX2_considerCrossing_16 : decode cX2_considerCrossing 16 = .ok (.aload_n 2, 1) := by decide +kernel
theorem dX2_considerCrossing_17 : decode cX2_considerCrossing 17 = .ok (.getfield 78, 3) := by decide +kernel
theorem dX2_considerCrossing_20 : decode cX2_considerCrossing 20 = .ok (.iload 4, 2) := by decide +kernel
theorem dX2_considerCrossing_22 : decode cX2_considerCrossing 22 = .ok (.iaload, 1) := by decide +kernel
theorem dX2_considerCrossing_23 : decode cX2_considerCrossing 23 = .ok (.i2l, 1) := by decide +kernel
theorem dX2_considerCrossing_24 : decode cX2_considerCrossing 24 = .ok (.aload_n 2, 1) := by decide +kernel
theorem dX2_considerCrossing_25 : decode cX2_considerCrossing 25 = .ok (.getfield 81, 3) := by decide +kernel
theorem dX2_considerCrossing_28 : decode cX2_considerCrossing 28 = .ok (.iload_n 3, 1) := by decide +kernel
theorem dX2_considerCrossing_29 : decode cX2_considerCrossing 29 = .ok (.iaload, 1) := by decide +kernel
theorem dX2_considerCrossing_30 : decode cX2_considerCrossing 30 = .ok (.i2l, 1) := by decide +kernel
theorem dX2_considerCrossing_31 : decode cX2_considerCrossing 31 = .ok (.lmul, 1) := by decide +kernel
theorem dX2_considerCrossing_32 : decode cX2_considerCrossing 32 = .ok (.lsub, 1) := by decide +kernel
theorem dX2_considerCrossing_33 : decode cX2_considerCrossing 33 = .ok (.lstore 5, 2) := by decide +kernel
theorem dX2_considerCrossing_35 : decode cX2_considerCrossing 35 = .ok (.lload 5, 2) := by decide +kernel
theorem dX2_considerCrossing_37 : decode cX2_considerCrossing 37 = .ok (.lconst 0, 1) := by decide +kernel
theorem dX2_considerCrossing_38 : decode cX2_considerCrossing 38 = .ok (.lcmp, 1) := by decide +kernel
theorem dX2_considerCrossing_39 : decode cX2_considerCrossing 39 = .ok (.ifCond .ne 4, 3) := by decide +kernel
theorem dX2_considerCrossing_42 : decode cX2_considerCrossing 42 = .ok (.return_, 1) := by decide +kernel
theorem dX2_considerCrossing_43 : decode cX2_considerCrossing 43 = .ok (.aload_n 2, 1) := by decide +kernel
theorem dX2_considerCrossing_44 : decode cX2_considerCrossing 44 = .ok (.getfield 81, 3) := by decide +kernel
theorem dX2_considerCrossing_47 : decode cX2_considerCrossing 47 = .ok (.iload_n 3, 1) := by decide +kernel
theorem dX2_considerCrossing_48 : decode cX2_considerCrossing 48 = .ok (.iaload, 1) := by decide +kernel
theorem dX2_considerCrossing_49 : decode cX2_considerCrossing 49 = .ok (.i2l, 1) := by decide +kernel
theorem dX2_considerCrossing_50 : decode cX2_considerCrossing 50 = .ok (.aload_n 2, 1) := by decide +kernel
theorem dX2_considerCrossing_51 : decode cX2_considerCrossing 51 = .ok (.getfield 84, 3) := by decide +kernel
theorem dX2_considerCrossing_54 : decode cX2_considerCrossing 54 = .ok (.iload 4, 2) := by decide +kernel
theorem dX2_considerCrossing_56 : decode cX2_considerCrossing 56 = .ok (.iaload, 1) := by decide +kernel
theorem dX2_considerCrossing_57 : decode cX2_considerCrossing 57 = .ok (.i2l, 1) := by decide +kernel
theorem dX2_considerCrossing_58 : decode cX2_considerCrossing 58 = .ok (.lmul, 1) := by decide +kernel
theorem dX2_considerCrossing_59 : decode cX2_considerCrossing 59 = .ok (.aload_n 2, 1) := by decide +kernel
theorem dX2_considerCrossing_60 : decode cX2_considerCrossing 60 = .ok (.getfield 81, 3) := by decide +kernel
theorem dX2_considerCrossing_63 : decode cX2_considerCrossing 63 = .ok (.iload 4, 2) := by decide +kernel
theorem dX2_considerCrossing_65 : decode cX2_considerCrossing 65 = .ok (.iaload, 1) := by decide +kernel
theorem dX2_considerCrossing_66 : decode cX2_considerCrossing 66 = .ok (.i2l, 1) := by decide +kernel
theorem dX2_considerCrossing_67 : decode cX2_considerCrossing 67 = .ok (.aload_n 2, 1) := by decide +kernel
theorem dX2_considerCrossing_68 : decode cX2_considerCrossing 68 = .ok (.getfield 84, 3) := by decide +kernel
theorem dX2_considerCrossing_71 : decode cX2_considerCrossing 71 = .ok (.iload_n 3, 1) := by decide +kernel
theorem dX2_considerCrossing_72 : decode cX2_considerCrossing 72 = .ok (.iaload, 1) := by decide +kernel
theorem dX2_considerCrossing_73 : decode cX2_considerCrossing 73 = .ok (.i2l, 1) := by decide +kernel
theorem dX2_considerCrossing_74 : decode cX2_considerCrossing 74 = .ok (.lmul, 1) := by decide +kernel
theorem dX2_considerCrossing_75 : decode cX2_considerCrossing 75 = .ok (.lsub, 1) := by decide +kernel
theorem dX2_considerCrossing_76 : decode cX2_considerCrossing 76 = .ok (.lstore 7, 2) := by decide +kernel
theorem dX2_considerCrossing_78 : decode cX2_considerCrossing 78 = .ok (.aload_n 2, 1) := by decide +kernel
theorem dX2_considerCrossing_79 : decode cX2_considerCrossing 79 = .ok (.getfield 84, 3) := by decide +kernel
theorem dX2_considerCrossing_82 : decode cX2_considerCrossing 82 = .ok (.iload_n 3, 1) := by decide +kernel
theorem dX2_considerCrossing_83 : decode cX2_considerCrossing 83 = .ok (.iaload, 1) := by decide +kernel
theorem dX2_considerCrossing_84 : decode cX2_considerCrossing 84 = .ok (.i2l, 1) := by decide +kernel
theorem dX2_considerCrossing_85 : decode cX2_considerCrossing 85 = .ok (.aload_n 2, 1) := by decide +kernel
theorem dX2_considerCrossing_86 : decode cX2_considerCrossing 86 = .ok (.getfield 78, 3) := by decide +kernel
theorem dX2_considerCrossing_89 : decode cX2_considerCrossing 89 = .ok (.iload 4, 2) := by decide +kernel
theorem dX2_considerCrossing_91 : decode cX2_considerCrossing 91 = .ok (.iaload, 1) := by decide +kernel
theorem dX2_considerCrossing_92 : decode cX2_considerCrossing 92 = .ok (.i2l, 1) := by decide +kernel
theorem dX2_considerCrossing_93 : decode cX2_considerCrossing 93 = .ok (.lmul, 1) := by decide +kernel
theorem dX2_considerCrossing_94 : decode cX2_considerCrossing 94 = .ok (.aload_n 2, 1) := by decide +kernel
theorem dX2_considerCrossing_95 : decode cX2_considerCrossing 95 = .ok (.getfield 84, 3) := by decide +kernel
theorem dX2_considerCrossing_98 : decode cX2_considerCrossing 98 = .ok (.iload 4, 2) := by decide +kernel
theorem dX2_considerCrossing_100 : decode cX2_considerCrossing 100 = .ok (.iaload, 1) := by decide +kernel
theorem dX2_considerCrossing_101 : decode cX2_considerCrossing 101 = .ok (.i2l, 1) := by decide +kernel
theorem dX2_considerCrossing_102 : decode cX2_considerCrossing 102 = .ok (.aload_n 2, 1) := by decide +kernel
theorem dX2_considerCrossing_103 : decode cX2_considerCrossing 103 = .ok (.getfield 78, 3) := by decide +kernel
theorem dX2_considerCrossing_106 : decode cX2_considerCrossing 106 = .ok (.iload_n 3, 1) := by decide +kernel
theorem dX2_considerCrossing_107 : decode cX2_considerCrossing 107 = .ok (.iaload, 1) := by decide +kernel
theorem dX2_considerCrossing_108 : decode cX2_considerCrossing 108 = .ok (.i2l, 1) := by decide +kernel
theorem dX2_considerCrossing_109 : decode cX2_considerCrossing 109 = .ok (.lmul, 1) := by decide +kernel
theorem dX2_considerCrossing_110 : decode cX2_considerCrossing 110 = .ok (.lsub, 1) := by decide +kernel
theorem dX2_considerCrossing_111 : decode cX2_considerCrossing 111 = .ok (.lstore 9, 2) := by decide +kernel
theorem dX2_considerCrossing_113 : decode cX2_considerCrossing 113 = .ok (.lload 5, 2) := by decide +kernel
theorem dX2_considerCrossing_115 : decode cX2_considerCrossing 115 = .ok (.lconst 0, 1) := by decide +kernel
theorem dX2_considerCrossing_116 : decode cX2_considerCrossing 116 = .ok (.lcmp, 1) := by decide +kernel
theorem dX2_considerCrossing_117 : decode cX2_considerCrossing 117 = .ok (.ifCond .le 17, 3) := by decide +kernel
theorem dX2_considerCrossing_120 : decode cX2_considerCrossing 120 = .ok (.aload_n 0, 1) := by decide +kernel
theorem dX2_considerCrossing_121 : decode cX2_considerCrossing 121 = .ok (.aload_n 1, 1) := by decide +kernel
theorem dX2_considerCrossing_122 : decode cX2_considerCrossing 122 = .ok (.lload 7, 2) := by decide +kernel
theorem dX2_considerCrossing_124 : decode cX2_considerCrossing 124 = .ok (.lload 9, 2) := by decide +kernel
theorem dX2_considerCrossing_126 : decode cX2_considerCrossing 126 = .ok (.lload 5, 2) := by decide +kernel
theorem dX2_considerCrossing_128 : decode cX2_considerCrossing 128 = .ok (.invokevirtual 63, 3) := by decide +kernel
theorem dX2_considerCrossing_131 : decode cX2_considerCrossing 131 = .ok (.goto 17, 3) := by decide +kernel
theorem dX2_considerCrossing_134 : decode cX2_considerCrossing 134 = .ok (.aload_n 0, 1) := by decide +kernel
theorem dX2_considerCrossing_135 : decode cX2_considerCrossing 135 = .ok (.aload_n 1, 1) := by decide +kernel
theorem dX2_considerCrossing_136 : decode cX2_considerCrossing 136 = .ok (.lload 7, 2) := by decide +kernel
theorem dX2_considerCrossing_138 : decode cX2_considerCrossing 138 = .ok (.lneg, 1) := by decide +kernel
theorem dX2_considerCrossing_139 : decode cX2_considerCrossing 139 = .ok (.lload 9, 2) := by decide +kernel
theorem dX2_considerCrossing_141 : decode cX2_considerCrossing 141 = .ok (.lneg, 1) := by decide +kernel
theorem dX2_considerCrossing_142 : decode cX2_considerCrossing 142 = .ok (.lload 5, 2) := by decide +kernel
theorem dX2_considerCrossing_144 : decode cX2_considerCrossing 144 = .ok (.lneg, 1) := by decide +kernel
theorem dX2_considerCrossing_145 : decode cX2_considerCrossing 145 = .ok (.invokevirtual 63, 3) := by decide +kernel
theorem dX2_considerCrossing_148 : decode cX2_considerCrossing 148 = .ok (.return_, 1) := by decide +kernel
theorem dX2_consider_0 : decode cX2_consider 0 = .ok (.aload_n 0, 1) := by decide +kernel
theorem dX2_consider_1 : decode cX2_consider 1 = .ok (.lload_n 2, 1) := by decide +kernel
theorem dX2_consider_2 : decode cX2_consider 2 = .ok (.lload 4, 2) := by decide +kernel
theorem dX2_consider_4 : decode cX2_consider 4 = .ok (.lload 6, 2) := by decide +kernel
theorem dX2_consider_6 : decode cX2_consider 6 = .ok (.invokevirtual 87, 3) := by decide +kernel
theorem dX2_consider_9 : decode cX2_consider 9 = .ok (.ifCond .eq 10, 3) := by decide +kernel
theorem dX2_consider_12 : decode cX2_consider 12 = .ok (.aload_n 0, 1) := by decide +kernel
theorem dX2_consider_13 : decode cX2_consider 13 = .ok (.getfield 52, 3) := by decide +kernel
theorem dX2_consider_16 : decode cX2_consider 16 = .ok (.goto 9, 3) := by decide +kernel
theorem dX2_consider_19 : decode cX2_consider 19 = .ok (.aload_n 0, 1) := by decide +kernel
theorem dX2_consider_20 : decode cX2_consider 20 = .ok (.getfield 52, 3) := by decide +kernel
theorem dX2_consider_23 : decode cX2_consider 23 = .ok (.iconst 1, 1) := by decide +kernel
theorem dX2_consider_24 : decode cX2_consider 24 = .ok (.iadd, 1) := by decide +kernel
theorem dX2_consider_25 : decode cX2_consider 25 = .ok (.istore 8, 2) := by decide +kernel
theorem dX2_consider_27 : decode cX2_consider 27 = .ok (.aload_n 0, 1) := by decide +kernel
theorem dX2_consider_28 : decode cX2_consider 28 = .ok (.aload_n 1, 1) := by decide +kernel
theorem dX2_consider_29 : decode cX2_consider 29 = .ok (.lload_n 2, 1) := by decide +kernel
theorem dX2_consider_30 : decode cX2_consider 30 = .ok (.lload 4, 2) := by decide +kernel
theorem dX2_consider_32 : decode cX2_consider 32 = .ok (.lload 6, 2) := by decide +kernel
theorem dX2_consider_34 : decode cX2_consider 34 = .ok (.iload 8, 2) := by decide +kernel
theorem dX2_consider_36 : decode cX2_consider 36 = .ok (.invokevirtual 91, 3) := by decide +kernel
theorem dX2_consider_39 : decode cX2_consider 39 = .ok (.istore 9, 2) := by decide +kernel
theorem dX2_consider_41 : decode cX2_consider 41 = .ok (.iload 9, 2) := by decide +kernel
theorem dX2_consider_43 : decode cX2_consider 43 = .ok (.iload 8, 2) := by decide +kernel
theorem dX2_consider_45 : decode cX2_consider 45 = .ok (.if_icmp .lt 26, 3) := by decide +kernel
theorem dX2_consider_48 : decode cX2_consider 48 = .ok (.aload_n 0, 1) := by decide +kernel
theorem dX2_consider_49 : decode cX2_consider 49 = .ok (.iload 9, 2) := by decide +kernel
theorem dX2_consider_51 : decode cX2_consider 51 = .ok (.putfield 52, 3) := by decide +kernel
theorem dX2_consider_54 : decode cX2_consider 54 = .ok (.aload_n 0, 1) := by decide +kernel
theorem dX2_consider_55 : decode cX2_consider 55 = .ok (.lload_n 2, 1) := by decide +kernel
theorem dX2_consider_56 : decode cX2_consider 56 = .ok (.putfield 55, 3) := by decide +kernel
theorem dX2_consider_59 : decode cX2_consider 59 = .ok (.aload_n 0, 1) := by decide +kernel
theorem dX2_consider_60 : decode cX2_consider 60 = .ok (.lload 4, 2) := by decide +kernel
theorem dX2_consider_62 : decode cX2_consider 62 = .ok (.putfield 58, 3) := by decide +kernel
theorem dX2_consider_65 : decode cX2_consider 65 = .ok (.aload_n 0, 1) := by decide +kernel
theorem dX2_consider_66 : decode cX2_consider 66 = .ok (.lload 6, 2) := by decide +kernel
theorem dX2_consider_68 : decode cX2_consider 68 = .ok (.putfield 60, 3) := by decide +kernel
theorem dX2_consider_71 : decode cX2_consider 71 = .ok (.return_, 1) := by decide +kernel
theorem dX2_isAhead_0 : decode cX2_isAhead 0 = .ok (.lload_n 1, 1) := by decide +kernel
theorem dX2_isAhead_1 : decode cX2_isAhead 1 = .ok (.aload_n 0, 1) := by decide +kernel
theorem dX2_isAhead_2 : decode cX2_isAhead 2 = .ok (.getfield 60, 3) := by decide +kernel
theorem dX2_isAhead_5 : decode cX2_isAhead 5 = .ok (.lmul, 1) := by decide +kernel
theorem dX2_isAhead_6 : decode cX2_isAhead 6 = .ok (.lstore 7, 2) := by decide +kernel
theorem dX2_isAhead_8 : decode cX2_isAhead 8 = .ok (.aload_n 0, 1) := by decide +kernel
theorem dX2_isAhead_9 : decode cX2_isAhead 9 = .ok (.getfield 55, 3) := by decide +kernel
theorem dX2_isAhead_12 : decode cX2_isAhead 12 = .ok (.lload 5, 2) := by decide +kernel
theorem dX2_isAhead_14 : decode cX2_isAhead 14 = .ok (.lmul, 1) := by decide +kernel
theorem dX2_isAhead_15 : decode cX2_isAhead 15 = .ok (.lstore 9, 2) := by decide +kernel
theorem dX2_isAhead_17 : decode cX2_isAhead 17 = .ok (.lload 7, 2) := by decide +kernel
theorem dX2_isAhead_19 : decode cX2_isAhead 19 = .ok (.lload 9, 2) := by decide +kernel
theorem dX2_isAhead_21 : decode cX2_isAhead 21 = .ok (.lcmp, 1) := by decide +kernel
theorem dX2_isAhead_22 : decode cX2_isAhead 22 = .ok (.ifCond .lt 28, 3) := by decide +kernel
theorem dX2_isAhead_25 : decode cX2_isAhead 25 = .ok (.lload 7, 2) := by decide +kernel
theorem dX2_isAhead_27 : decode cX2_isAhead 27 = .ok (.lload 9, 2) := by decide +kernel
theorem dX2_isAhead_29 : decode cX2_isAhead 29 = .ok (.lcmp, 1) := by decide +kernel
theorem dX2_isAhead_30 : decode cX2_isAhead 30 = .ok (.ifCond .ne 24, 3) := by decide +kernel
theorem dX2_isAhead_33 : decode cX2_isAhead 33 = .ok (.lload_n 3, 1) := by decide +kernel
theorem dX2_isAhead_34 : decode cX2_isAhead 34 = .ok (.aload_n 0, 1) := by decide +kernel
theorem dX2_isAhead_35 : decode cX2_isAhead 35 = .ok (.getfield 60, 3) := by decide +kernel
theorem dX2_isAhead_38 : decode cX2_isAhead 38 = .ok (.lmul, 1) := by decide +kernel
theorem dX2_isAhead_39 : decode cX2_isAhead 39 = .ok (.aload_n 0, 1) := by decide +kernel
theorem dX2_isAhead_40 : decode cX2_isAhead 40 = .ok (.getfield 58, 3) := by decide +kernel
theorem dX2_isAhead_43 : decode cX2_isAhead 43 = .ok (.lload 5, 2) := by decide +kernel
theorem dX2_isAhead_45 : decode cX2_isAhead 45 = .ok (.lmul, 1) := by decide +kernel
theorem dX2_isAhead_46 : decode cX2_isAhead 46 = .ok (.lcmp, 1) := by decide +kernel
theorem dX2_isAhead_47 : decode cX2_isAhead 47 = .ok (.ifCond .ge 7, 3) := by decide +kernel
theorem dX2_isAhead_50 : decode cX2_isAhead 50 = .ok (.iconst 1, 1) := by decide +kernel
theorem dX2_isAhead_51 : decode cX2_isAhead 51 = .ok (.goto 4, 3) := by decide +kernel
theorem dX2_isAhead_54 : decode cX2_isAhead 54 = .ok (.iconst 0, 1) := by decide +kernel
theorem dX2_isAhead_55 : decode cX2_isAhead 55 = .ok (.ireturn, 1) := by decide +kernel
theorem dX2_tell_0 : decode cX2_tell 0 = .ok (.iload_n 1, 1) := by decide +kernel
theorem dX2_tell_1 : decode cX2_tell 1 = .ok (.tableswitch 73 0 3 #[31, 37, 49, 61], 31) := by decide +kernel
theorem dX2_tell_32 : decode cX2_tell 32 = .ok (.aload_n 0, 1) := by decide +kernel
theorem dX2_tell_33 : decode cX2_tell 33 = .ok (.getfield 52, 3) := by decide +kernel
theorem dX2_tell_36 : decode cX2_tell 36 = .ok (.i2l, 1) := by decide +kernel
theorem dX2_tell_37 : decode cX2_tell 37 = .ok (.lreturn, 1) := by decide +kernel
theorem dX2_tell_38 : decode cX2_tell 38 = .ok (.aload_n 0, 1) := by decide +kernel
theorem dX2_tell_39 : decode cX2_tell 39 = .ok (.getfield 55, 3) := by decide +kernel
theorem dX2_tell_42 : decode cX2_tell 42 = .ok (.aload_n 0, 1) := by decide +kernel
theorem dX2_tell_43 : decode cX2_tell 43 = .ok (.getfield 60, 3) := by decide +kernel
theorem dX2_tell_46 : decode cX2_tell 46 = .ok (.invokestatic 95, 3) := by decide +kernel
theorem dX2_tell_49 : decode cX2_tell 49 = .ok (.lreturn, 1) := by decide +kernel
theorem dX2_tell_50 : decode cX2_tell 50 = .ok (.aload_n 0, 1) := by decide +kernel
theorem dX2_tell_51 : decode cX2_tell 51 = .ok (.getfield 60, 3) := by decide +kernel
theorem dX2_tell_54 : decode cX2_tell 54 = .ok (.aload_n 0, 1) := by decide +kernel
theorem dX2_tell_55 : decode cX2_tell 55 = .ok (.getfield 55, 3) := by decide +kernel
theorem dX2_tell_58 : decode cX2_tell 58 = .ok (.invokestatic 95, 3) := by decide +kernel
theorem dX2_tell_61 : decode cX2_tell 61 = .ok (.lreturn, 1) := by decide +kernel
theorem dX2_tell_62 : decode cX2_tell 62 = .ok (.aload_n 0, 1) := by decide +kernel
theorem dX2_tell_63 : decode cX2_tell 63 = .ok (.getfield 58, 3) := by decide +kernel
theorem dX2_tell_66 : decode cX2_tell 66 = .ok (.aload_n 0, 1) := by decide +kernel
theorem dX2_tell_67 : decode cX2_tell 67 = .ok (.getfield 60, 3) := by decide +kernel
theorem dX2_tell_70 : decode cX2_tell 70 = .ok (.invokestatic 95, 3) := by decide +kernel
theorem dX2_tell_73 : decode cX2_tell 73 = .ok (.lreturn, 1) := by decide +kernel
theorem dX2_tell_74 : decode cX2_tell 74 = .ok (.aload_n 0, 1) := by decide +kernel
theorem dX2_tell_75 : decode cX2_tell 75 = .ok (.getfield 60, 3) := by decide +kernel
theorem dX2_tell_78 : decode cX2_tell 78 = .ok (.aload_n 0, 1) := by decide +kernel
theorem dX2_tell_79 : decode cX2_tell 79 = .ok (.getfield 58, 3) := by decide +kernel
theorem dX2_tell_82 : decode cX2_tell 82 = .ok (.invokestatic 95, 3) := by decide +kernel
theorem dX2_tell_85 : decode cX2_tell 85 = .ok (.lreturn, 1) := by decide +kernel
theorem dX3_init_0 : decode cX3_init 0 = .ok (.aload_n 0, 1) := by decide +kernel
theorem dX3_init_1 : decode cX3_init 1 = .ok (.invokespecial 3, 3) := by decide +kernel
theorem dX3_init_4 : decode cX3_init 4 = .ok (.aload_n 0, 1) := by decide +kernel
theorem dX3_init_5 : decode cX3_init 5 = .ok (.bipush 40, 2) := by decide +kernel
theorem dX3_init_7 : decode cX3_init 7 = .ok (.newarray .int, 2) := by decide +kernel
theorem dX3_init_9 : decode cX3_init 9 = .ok (.putfield 9, 3) := by decide +kernel
theorem dX3_init_12 : decode cX3_init 12 = .ok (.return_, 1) := by decide +kernel
theorem dX3_peel_0 : decode cX3_peel 0 = .ok (.aload_n 0, 1) := by decide +kernel
theorem dX3_peel_1 : decode cX3_peel 1 = .ok (.iconst 0, 1) := by decide +kernel
theorem dX3_peel_2 : decode cX3_peel 2 = .ok (.putfield 15, 3) := by decide +kernel
theorem dX3_peel_5 : decode cX3_peel 5 = .ok (.aload_n 1, 1) := by decide +kernel
theorem dX3_peel_6 : decode cX3_peel 6 = .ok (.getfield 19, 3) := by decide +kernel
theorem dX3_peel_9 : decode cX3_peel 9 = .ok (.istore_n 2, 1) := by decide +kernel
theorem dX3_peel_10 : decode cX3_peel 10 = .ok (.iconst 0, 1) := by decide +kernel
theorem dX3_peel_11 : decode cX3_peel 11 = .ok (.istore_n 3, 1) := by decide +kernel
theorem dX3_peel_12 : decode cX3_peel 12 = .ok (.iload_n 3, 1) := by decide +kernel
theorem dX3_peel_13 : decode cX3_peel 13 = .ok (.bipush 40, 2) := by decide +kernel
theorem dX3_peel_15 : decode cX3_peel 15 = .ok (.if_icmp .ge 16, 3) := by decide +kernel
theorem dX3_peel_18 : decode cX3_peel 18 = .ok (.aload_n 0, 1) := by decide +kernel
theorem dX3_peel_19 : decode cX3_peel 19 = .ok (.getfield 9, 3) := by decide +kernel
theorem dX3_peel_22 : decode cX3_peel 22 = .ok (.iload_n 3, 1) := by decide +kernel
theorem dX3_peel_23 : decode cX3_peel 23 = .ok (.iconst 0, 1) := by decide +kernel
theorem dX3_peel_24 : decode cX3_peel 24 = .ok (.iastore, 1) := by decide +kernel
theorem dX3_peel_25 : decode cX3_peel 25 = .ok (.iinc 3 1, 3) := by decide +kernel
theorem dX3_peel_28 : decode cX3_peel 28 = .ok (.goto (-16), 3) := by decide +kernel
theorem dX3_peel_31 : decode cX3_peel 31 = .ok (.iconst 1, 1) := by decide +kernel
theorem dX3_peel_32 : decode cX3_peel 32 = .ok (.istore_n 3, 1) := by decide +kernel
theorem dX3_peel_33 : decode cX3_peel 33 = .ok (.iload_n 3, 1) := by decide +kernel
theorem dX3_peel_34 : decode cX3_peel 34 = .ok (.bipush 40, 2) := by decide +kernel
theorem dX3_peel_36 : decode cX3_peel 36 = .ok (.if_icmp .gt 27, 3) := by decide +kernel
theorem dX3_peel_39 : decode cX3_peel 39 = .ok (.iload_n 2, 1) := by decide +kernel
theorem dX3_peel_40 : decode cX3_peel 40 = .ok (.ifCond .le 23, 3) := by decide +kernel
theorem dX3_peel_43 : decode cX3_peel 43 = .ok (.iload_n 2, 1) := by decide +kernel
theorem dX3_peel_44 : decode cX3_peel 44 = .ok (.aload_n 0, 1) := by decide +kernel
theorem dX3_peel_45 : decode cX3_peel 45 = .ok (.aload_n 1, 1) := by decide +kernel
theorem dX3_peel_46 : decode cX3_peel 46 = .ok (.iload_n 3, 1) := by decide +kernel
theorem dX3_peel_47 : decode cX3_peel 47 = .ok (.invokevirtual 22, 3) := by decide +kernel
theorem dX3_peel_50 : decode cX3_peel 50 = .ok (.isub, 1) := by decide +kernel
theorem dX3_peel_51 : decode cX3_peel 51 = .ok (.istore_n 2, 1) := by decide +kernel
theorem dX3_peel_52 : decode cX3_peel 52 = .ok (.aload_n 0, 1) := by decide +kernel
theorem dX3_peel_53 : decode cX3_peel 53 = .ok (.iload_n 3, 1) := by decide +kernel
theorem dX3_peel_54 : decode cX3_peel 54 = .ok (.putfield 15, 3) := by decide +kernel
theorem dX3_peel_57 : decode cX3_peel 57 = .ok (.iinc 3 1, 3) := by decide +kernel
theorem dX3_peel_60 : decode cX3_peel 60 = .ok (.goto (-27), 3) := by decide +kernel
theorem dX3_peel_63 : decode cX3_peel 63 = .ok (.aload_n 0, 1) := by decide +kernel
theorem dX3_peel_64 : decode cX3_peel 64 = .ok (.iconst 1, 1) := by decide +kernel
theorem dX3_peel_65 : decode cX3_peel 65 = .ok (.putfield 26, 3) := by decide +kernel
theorem dX3_peel_68 : decode cX3_peel 68 = .ok (.return_, 1) := by decide +kernel
theorem dX3_peelOne_0 : decode cX3_peelOne 0 = .ok (.iconst 0, 1) := by decide +kernel
theorem dX3_peelOne_1 : decode cX3_peelOne 1 = .ok (.istore_n 3, 1) := by decide +kernel
theorem dX3_peelOne_2 : decode cX3_peelOne 2 = .ok (.iconst 0, 1) := by decide +kernel
theorem dX3_peelOne_3 : decode cX3_peelOne 3 = .ok (.istore 4, 2) := by decide +kernel
theorem dX3_peelOne_5 : decode cX3_peelOne 5 = .ok (.iload 4, 2) := by decide +kernel
theorem dX3_peelOne_7 : decode cX3_peelOne 7 = .ok (.aload_n 1, 1) := by decide +kernel
theorem dX3_peelOne_8 : decode cX3_peelOne 8 = .ok (.getfield 19, 3) := by decide +kernel
theorem dX3_peelOne_11 : decode cX3_peelOne 11 = .ok (.if_icmp .ge 41, 3) := by decide +kernel
theorem dX3_peelOne_14 : decode cX3_peelOne 14 = .ok (.aload_n 0, 1) := by decide +kernel
theorem dX3_peelOne_15 : decode cX3_peelOne 15 = .ok (.getfield 9, 3) := by decide +kernel
theorem dX3_peelOne_18 : decode cX3_peelOne 18 = .ok (.iload 4, 2) := by decide +kernel
theorem dX3_peelOne_20 : decode cX3_peelOne 20 = .ok (.iaload, 1) := by decide +kernel
theorem dX3_peelOne_21 : decode cX3_peelOne 21 = .ok (.ifCond .ne 25, 3) := by decide +kernel
theorem dX3_peelOne_24 : decode cX3_peelOne 24 = .ok (.aload_n 0, 1) := by decide +kernel
theorem dX3_peelOne_25 : decode cX3_peelOne 25 = .ok (.aload_n 1, 1) := by decide +kernel
theorem dX3_peelOne_26 : decode cX3_peelOne 26 = .ok (.iload 4, 2) := by decide +kernel
theorem dX3_peelOne_28 : decode cX3_peelOne 28 = .ok (.iload_n 2, 1) := by decide +kernel
theorem dX3_peelOne_29 : decode cX3_peelOne 29 = .ok (.invokevirtual 30, 3) := by decide +kernel
theorem dX3_peelOne_32 : decode cX3_peelOne 32 = .ok (.ifCond .eq 14, 3) := by decide +kernel
theorem dX3_peelOne_35 : decode cX3_peelOne 35 = .ok (.aload_n 0, 1) := by decide +kernel
theorem dX3_peelOne_36 : decode cX3_peelOne 36 = .ok (.getfield 9, 3) := by decide +kernel
theorem dX3_peelOne_39 : decode cX3_peelOne 39 = .ok (.iload 4, 2) := by decide +kernel
theorem dX3_peelOne_41 : decode cX3_peelOne 41 = .ok (.iload_n 2, 1) := by decide +kernel
theorem dX3_peelOne_42 : decode cX3_peelOne 42 = .ok (.iastore, 1) := by decide +kernel
theorem dX3_peelOne_43 : decode cX3_peelOne 43 = .ok (.iinc 3 1, 3) := by decide +kernel
theorem dX3_peelOne_46 : decode cX3_peelOne 46 = .ok (.iinc 4 1, 3) := by decide +kernel
theorem dX3_peelOne_49 : decode cX3_peelOne 49 = .ok (.goto (-44), 3) := by decide +kernel
theorem dX3_peelOne_52 : decode cX3_peelOne 52 = .ok (.iload_n 3, 1) := by decide +kernel
theorem dX3_peelOne_53 : decode cX3_peelOne 53 = .ok (.ireturn, 1) := by decide +kernel
theorem dX3_isIn_0 : decode cX3_isIn 0 = .ok (.aload_n 0, 1) := by decide +kernel
theorem dX3_isIn_1 : decode cX3_isIn 1 = .ok (.getfield 9, 3) := by decide +kernel
theorem dX3_isIn_4 : decode cX3_isIn 4 = .ok (.iload_n 1, 1) := by decide +kernel
theorem dX3_isIn_5 : decode cX3_isIn 5 = .ok (.iaload, 1) := by decide +kernel
theorem dX3_isIn_6 : decode cX3_isIn 6 = .ok (.ifCond .eq 13, 3) := by decide +kernel
theorem dX3_isIn_9 : decode cX3_isIn 9 = .ok (.aload_n 0, 1) := by decide +kernel
theorem dX3_isIn_10 : decode cX3_isIn 10 = .ok (.getfield 9, 3) := by decide +kernel
theorem dX3_isIn_13 : decode cX3_isIn 13 = .ok (.iload_n 1, 1) := by decide +kernel
theorem dX3_isIn_14 : decode cX3_isIn 14 = .ok (.iaload, 1) := by decide +kernel
theorem dX3_isIn_15 : decode cX3_isIn 15 = .ok (.iload_n 2, 1) := by decide +kernel
theorem dX3_isIn_16 : decode cX3_isIn 16 = .ok (.if_icmp .ne 7, 3) := by decide +kernel
theorem dX3_isIn_19 : decode cX3_isIn 19 = .ok (.iconst 1, 1) := by decide +kernel
theorem dX3_isIn_20 : decode cX3_isIn 20 = .ok (.goto 4, 3) := by decide +kernel
theorem dX3_isIn_23 : decode cX3_isIn 23 = .ok (.iconst 0, 1) := by decide +kernel
theorem dX3_isIn_24 : decode cX3_isIn 24 = .ok (.ireturn, 1) := by decide +kernel
theorem dX3_isOnEdge_0 : decode cX3_isOnEdge 0 = .ok (.iconst 1, 1) := by decide +kernel
theorem dX3_isOnEdge_1 : decode cX3_isOnEdge 1 = .ok (.istore 4, 2) := by decide +kernel
theorem dX3_isOnEdge_3 : decode cX3_isOnEdge 3 = .ok (.iconst 0, 1) := by decide +kernel
theorem dX3_isOnEdge_4 : decode cX3_isOnEdge 4 = .ok (.istore 5, 2) := by decide +kernel
theorem dX3_isOnEdge_6 : decode cX3_isOnEdge 6 = .ok (.iload 5, 2) := by decide +kernel
theorem dX3_isOnEdge_8 : decode cX3_isOnEdge 8 = .ok (.aload_n 1, 1) := by decide +kernel
theorem dX3_isOnEdge_9 : decode cX3_isOnEdge 9 = .ok (.getfield 19, 3) := by decide +kernel
theorem dX3_isOnEdge_12 : decode cX3_isOnEdge 12 = .ok (.if_icmp .ge 46, 3) := by decide +kernel
theorem dX3_isOnEdge_15 : decode cX3_isOnEdge 15 = .ok (.aload_n 0, 1) := by decide +kernel
theorem dX3_isOnEdge_16 : decode cX3_isOnEdge 16 = .ok (.iload 5, 2) := by decide +kernel
theorem dX3_isOnEdge_18 : decode cX3_isOnEdge 18 = .ok (.iload_n 3, 1) := by decide +kernel
theorem dX3_isOnEdge_19 : decode cX3_isOnEdge 19 = .ok (.invokevirtual 34, 3) := by decide +kernel
theorem dX3_isOnEdge_22 : decode cX3_isOnEdge 22 = .ok (.ifCond .eq 30, 3) := by decide +kernel
theorem dX3_isOnEdge_25 : decode cX3_isOnEdge 25 = .ok (.aload_n 1, 1) := by decide +kernel
theorem dX3_isOnEdge_26 : decode cX3_isOnEdge 26 = .ok (.iload_n 2, 1) := by decide +kernel
theorem dX3_isOnEdge_27 : decode cX3_isOnEdge 27 = .ok (.iload 5, 2) := by decide +kernel
theorem dX3_isOnEdge_29 : decode cX3_isOnEdge 29 = .ok (.invokevirtual 38, 3) := by decide +kernel
theorem dX3_isOnEdge_32 : decode cX3_isOnEdge 32 = .ok (.ifCond .ne 20, 3) := by decide +kernel
theorem dX3_isOnEdge_35 : decode cX3_isOnEdge 35 = .ok (.iconst 0, 1) := by decide +kernel
theorem dX3_isOnEdge_36 : decode cX3_isOnEdge 36 = .ok (.istore 4, 2) := by decide +kernel
theorem dX3_isOnEdge_38 : decode cX3_isOnEdge 38 = .ok (.aload_n 0, 1) := by decide +kernel
theorem dX3_isOnEdge_39 : decode cX3_isOnEdge 39 = .ok (.aload_n 1, 1) := by decide +kernel
theorem dX3_isOnEdge_40 : decode cX3_isOnEdge 40 = .ok (.iload_n 2, 1) := by decide +kernel
theorem dX3_isOnEdge_41 : decode cX3_isOnEdge 41 = .ok (.iload 5, 2) := by decide +kernel
theorem dX3_isOnEdge_43 : decode cX3_isOnEdge 43 = .ok (.iload_n 3, 1) := by decide +kernel
theorem dX3_isOnEdge_44 : decode cX3_isOnEdge 44 = .ok (.invokevirtual 41, 3) := by decide +kernel
theorem dX3_isOnEdge_47 : decode cX3_isOnEdge 47 = .ok (.ifCond .eq 5, 3) := by decide +kernel
theorem dX3_isOnEdge_50 : decode cX3_isOnEdge 50 = .ok (.iconst 1, 1) := by decide +kernel
theorem dX3_isOnEdge_51 : decode cX3_isOnEdge 51 = .ok (.ireturn, 1) := by decide +kernel
theorem dX3_isOnEdge_52 : decode cX3_isOnEdge 52 = .ok (.iinc 5 1, 3) := by decide +kernel
theorem dX3_isOnEdge_55 : decode cX3_isOnEdge 55 = .ok (.goto (-49), 3) := by decide +kernel
theorem dX3_isOnEdge_58 : decode cX3_isOnEdge 58 = .ok (.iload 4, 2) := by decide +kernel
theorem dX3_isOnEdge_60 : decode cX3_isOnEdge 60 = .ok (.ireturn, 1) := by decide +kernel
theorem dX3_isOneSided_0 : decode cX3_isOneSided 0 = .ok (.iconst 0, 1) := by decide +kernel
theorem dX3_isOneSided_1 : decode cX3_isOneSided 1 = .ok (.istore 5, 2) := by decide +kernel
theorem dX3_isOneSided_3 : decode cX3_isOneSided 3 = .ok (.iconst 0, 1) := by decide +kernel
theorem dX3_isOneSided_4 : decode cX3_isOneSided 4 = .ok (.istore 6, 2) := by decide +kernel
theorem dX3_isOneSided_6 : decode cX3_isOneSided 6 = .ok (.iconst 0, 1) := by decide +kernel
theorem dX3_isOneSided_7 : decode cX3_isOneSided 7 = .ok (.istore 7, 2) := by decide +kernel
theorem dX3_isOneSided_9 : decode cX3_isOneSided 9 = .ok (.iload 7, 2) := by decide +kernel
theorem dX3_isOneSided_11 : decode cX3_isOneSided 11 = .ok (.aload_n 1, 1) := by decide +kernel
theorem dX3_isOneSided_12 : decode cX3_isOneSided 12 = .ok (.getfield 19, 3) := by decide +kernel
theorem dX3_isOneSided_15 : decode cX3_isOneSided 15 = .ok (.if_icmp .ge 76, 3) := by decide +kernel
theorem dX3_isOneSided_18 : decode cX3_isOneSided 18 = .ok (.aload_n 0, 1) := by decide +kernel
theorem dX3_isOneSided_19 : decode cX3_isOneSided 19 = .ok (.iload 7, 2) := by decide +kernel
theorem dX3_isOneSided_21 : decode cX3_isOneSided 21 = .ok (.iload 4, 2) := by decide +kernel
theorem dX3_isOneSided_23 : decode cX3_isOneSided 23 = .ok (.invokevirtual 34, 3) := by decide +kernel
theorem dX3_isOneSided_26 : decode cX3_isOneSided 26 = .ok (.ifCond .eq 59, 3) := by decide +kernel
theorem dX3_isOneSided_29 : decode cX3_isOneSided 29 = .ok (.aload_n 1, 1) := by decide +kernel
theorem dX3_isOneSided_30 : decode cX3_isOneSided 30 = .ok (.iload_n 2, 1) := by decide +kernel
theorem dX3_isOneSided_31 : decode cX3_isOneSided 31 = .ok (.iload_n 3, 1) := by decide +kernel
theorem dX3_isOneSided_32 : decode cX3_isOneSided 32 = .ok (.iload 7, 2) := by decide +kernel
theorem dX3_isOneSided_34 : decode cX3_isOneSided 34 = .ok (.invokevirtual 45, 3) := by decide +kernel
theorem dX3_isOneSided_37 : decode cX3_isOneSided 37 = .ok (.istore 8, 2) := by decide +kernel
theorem dX3_isOneSided_39 : decode cX3_isOneSided 39 = .ok (.iload 5, 2) := by decide +kernel
theorem dX3_isOneSided_41 : decode cX3_isOneSided 41 = .ok (.ifCond .ne 8, 3) := by decide +kernel
theorem dX3_isOneSided_44 : decode cX3_isOneSided 44 = .ok (.iload 8, 2) := by decide +kernel
theorem dX3_isOneSided_46 : decode cX3_isOneSided 46 = .ok (.ifCond .le 7, 3) := by decide +kernel
theorem dX3_isOneSided_49 : decode cX3_isOneSided 49 = .ok (.iconst 1, 1) := by decide +kernel
theorem dX3_isOneSided_50 : decode cX3_isOneSided 50 = .ok (.goto 4, 3) := by decide +kernel
theorem dX3_isOneSided_53 : decode cX3_isOneSided 53 = .ok (.iconst 0, 1) := by decide +kernel
theorem dX3_isOneSided_54 : decode cX3_isOneSided 54 = .ok (.istore 5, 2) := by decide +kernel
theorem dX3_isOneSided_56 : decode cX3_isOneSided 56 = .ok (.iload 6, 2) := by decide +kernel
theorem dX3_isOneSided_58 : decode cX3_isOneSided 58 = .ok (.ifCond .ne 8, 3) := by decide +kernel
theorem dX3_isOneSided_61 : decode cX3_isOneSided 61 = .ok (.iload 8, 2) := by decide +kernel
theorem dX3_isOneSided_63 : decode cX3_isOneSided 63 = .ok (.ifCond .ge 7, 3) := by decide +kernel
theorem dX3_isOneSided_66 : decode cX3_isOneSided 66 = .ok (.iconst 1, 1) := by decide +kernel
theorem dX3_isOneSided_67 : decode cX3_isOneSided 67 = .ok (.goto 4, 3) := by decide +kernel
theorem dX3_isOneSided_70 : decode cX3_isOneSided 70 = .ok (.iconst 0, 1) := by decide +kernel
theorem dX3_isOneSided_71 : decode cX3_isOneSided 71 = .ok (.istore 6, 2) := by decide +kernel
theorem dX3_isOneSided_73 : decode cX3_isOneSided 73 = .ok (.iload 5, 2) := by decide +kernel
theorem dX3_isOneSided_75 : decode cX3_isOneSided 75 = .ok (.ifCond .eq 10, 3) := by decide +kernel
theorem dX3_isOneSided_78 : decode cX3_isOneSided 78 = .ok (.iload 6, 2) := by decide +kernel
theorem dX3_isOneSided_80 : decode cX3_isOneSided 80 = .ok (.ifCond .eq 5, 3) := by decide +kernel
theorem dX3_isOneSided_83 : decode cX3_isOneSided 83 = .ok (.iconst 0, 1) := by decide +kernel
theorem dX3_isOneSided_84 : decode cX3_isOneSided 84 = .ok (.ireturn, 1) := by decide +kernel
theorem dX3_isOneSided_85 : decode cX3_isOneSided 85 = .ok (.iinc 7 1, 3) := by decide +kernel
theorem dX3_isOneSided_88 : decode cX3_isOneSided 88 = .ok (.goto (-79), 3) := by decide +kernel
theorem dX3_isOneSided_91 : decode cX3_isOneSided 91 = .ok (.iconst 1, 1) := by decide +kernel
theorem dX3_isOneSided_92 : decode cX3_isOneSided 92 = .ok (.ireturn, 1) := by decide +kernel
theorem dX3_layerOf_0 : decode cX3_layerOf 0 = .ok (.iload_n 1, 1) := by decide +kernel
theorem dX3_layerOf_1 : decode cX3_layerOf 1 = .ok (.bipush 40, 2) := by decide +kernel
theorem dX3_layerOf_3 : decode cX3_layerOf 3 = .ok (.invokestatic 49, 3) := by decide +kernel
theorem dX3_layerOf_6 : decode cX3_layerOf 6 = .ok (.ifCond .eq 12, 3) := by decide +kernel
theorem dX3_layerOf_9 : decode cX3_layerOf 9 = .ok (.aload_n 0, 1) := by decide +kernel
theorem dX3_layerOf_10 : decode cX3_layerOf 10 = .ok (.getfield 9, 3) := by decide +kernel
theorem dX3_layerOf_13 : decode cX3_layerOf 13 = .ok (.iload_n 1, 1) := by decide +kernel
theorem dX3_layerOf_14 : decode cX3_layerOf 14 = .ok (.iaload, 1) := by decide +kernel
theorem dX3_layerOf_15 : decode cX3_layerOf 15 = .ok (.goto 4, 3) := by decide +kernel
theorem dX3_layerOf_18 : decode cX3_layerOf 18 = .ok (.iconst 0, 1) := by decide +kernel
theorem dX3_layerOf_19 : decode cX3_layerOf 19 = .ok (.ireturn, 1) := by decide +kernel
theorem dX3_sizeOf_0 : decode cX3_sizeOf 0 = .ok (.iconst 0, 1) := by decide +kernel
theorem dX3_sizeOf_1 : decode cX3_sizeOf 1 = .ok (.istore_n 2, 1) := by decide +kernel
theorem dX3_sizeOf_2 : decode cX3_sizeOf 2 = .ok (.iconst 0, 1) := by decide +kernel
theorem dX3_sizeOf_3 : decode cX3_sizeOf 3 = .ok (.istore_n 3, 1) := by decide +kernel
theorem dX3_sizeOf_4 : decode cX3_sizeOf 4 = .ok (.iload_n 3, 1) := by decide +kernel
theorem dX3_sizeOf_5 : decode cX3_sizeOf 5 = .ok (.bipush 40, 2) := by decide +kernel
theorem dX3_sizeOf_7 : decode cX3_sizeOf 7 = .ok (.if_icmp .ge 22, 3) := by decide +kernel
theorem dX3_sizeOf_10 : decode cX3_sizeOf 10 = .ok (.aload_n 0, 1) := by decide +kernel
theorem dX3_sizeOf_11 : decode cX3_sizeOf 11 = .ok (.getfield 9, 3) := by decide +kernel
theorem dX3_sizeOf_14 : decode cX3_sizeOf 14 = .ok (.iload_n 3, 1) := by decide +kernel
theorem dX3_sizeOf_15 : decode cX3_sizeOf 15 = .ok (.iaload, 1) := by decide +kernel
theorem dX3_sizeOf_16 : decode cX3_sizeOf 16 = .ok (.iload_n 1, 1) := by decide +kernel
theorem dX3_sizeOf_17 : decode cX3_sizeOf 17 = .ok (.if_icmp .ne 6, 3) := by decide +kernel
theorem dX3_sizeOf_20 : decode cX3_sizeOf 20 = .ok (.iinc 2 1, 3) := by decide +kernel
theorem dX3_sizeOf_23 : decode cX3_sizeOf 23 = .ok (.iinc 3 1, 3) := by decide +kernel
theorem dX3_sizeOf_26 : decode cX3_sizeOf 26 = .ok (.goto (-22), 3) := by decide +kernel
theorem dX3_sizeOf_29 : decode cX3_sizeOf 29 = .ok (.iload_n 2, 1) := by decide +kernel
theorem dX3_sizeOf_30 : decode cX3_sizeOf 30 = .ok (.ireturn, 1) := by decide +kernel
theorem dX4_init_0 : decode cX4_init 0 = .ok (.aload_n 0, 1) := by decide +kernel
theorem dX4_init_1 : decode cX4_init 1 = .ok (.invokespecial 3, 3) := by decide +kernel
theorem dX4_init_4 : decode cX4_init 4 = .ok (.aload_n 0, 1) := by decide +kernel
theorem dX4_init_5 : decode cX4_init 5 = .ok (.iconst 0, 1) := by decide +kernel
theorem dX4_init_6 : decode cX4_init 6 = .ok (.putfield 9, 3) := by decide +kernel
theorem dX4_init_9 : decode cX4_init 9 = .ok (.aload_n 0, 1) := by decide +kernel
theorem dX4_init_10 : decode cX4_init 10 = .ok (.iconst 1, 1) := by decide +kernel
theorem dX4_init_11 : decode cX4_init 11 = .ok (.putfield 15, 3) := by decide +kernel
theorem dX4_init_14 : decode cX4_init 14 = .ok (.aload_n 0, 1) := by decide +kernel
theorem dX4_init_15 : decode cX4_init 15 = .ok (.iconst 0, 1) := by decide +kernel
theorem dX4_init_16 : decode cX4_init 16 = .ok (.putfield 18, 3) := by decide +kernel
theorem dX4_init_19 : decode cX4_init 19 = .ok (.return_, 1) := by decide +kernel
theorem dX4_become_0 : decode cX4_become 0 = .ok (.aload_n 0, 1) := by decide +kernel
theorem dX4_become_1 : decode cX4_become 1 = .ok (.iload_n 1, 1) := by decide +kernel
theorem dX4_become_2 : decode cX4_become 2 = .ok (.putfield 9, 3) := by decide +kernel
theorem dX4_become_5 : decode cX4_become 5 = .ok (.aload_n 0, 1) := by decide +kernel
theorem dX4_become_6 : decode cX4_become 6 = .ok (.iload_n 2, 1) := by decide +kernel
theorem dX4_become_7 : decode cX4_become 7 = .ok (.putfield 15, 3) := by decide +kernel
theorem dX4_become_10 : decode cX4_become 10 = .ok (.aload_n 0, 1) := by decide +kernel
theorem dX4_become_11 : decode cX4_become 11 = .ok (.iload_n 3, 1) := by decide +kernel
theorem dX4_become_12 : decode cX4_become 12 = .ok (.putfield 18, 3) := by decide +kernel
theorem dX4_become_15 : decode cX4_become 15 = .ok (.aload_n 0, 1) := by decide +kernel
theorem dX4_become_16 : decode cX4_become 16 = .ok (.getfield 9, 3) := by decide +kernel
theorem dX4_become_19 : decode cX4_become 19 = .ok (.i2l, 1) := by decide +kernel
theorem dX4_become_20 : decode cX4_become 20 = .ok (.aload_n 0, 1) := by decide +kernel
theorem dX4_become_21 : decode cX4_become 21 = .ok (.getfield 15, 3) := by decide +kernel
theorem dX4_become_24 : decode cX4_become 24 = .ok (.i2l, 1) := by decide +kernel
theorem dX4_become_25 : decode cX4_become 25 = .ok (.invokestatic 21, 3) := by decide +kernel
theorem dX4_become_28 : decode cX4_become 28 = .ok (.aload_n 0, 1) := by decide +kernel
theorem dX4_become_29 : decode cX4_become 29 = .ok (.getfield 18, 3) := by decide +kernel
theorem dX4_become_32 : decode cX4_become 32 = .ok (.i2l, 1) := by decide +kernel
theorem dX4_become_33 : decode cX4_become 33 = .ok (.invokestatic 21, 3) := by decide +kernel
theorem dX4_become_36 : decode cX4_become 36 = .ok (.l2i, 1) := by decide +kernel
theorem dX4_become_37 : decode cX4_become 37 = .ok (.istore 4, 2) := by decide +kernel
theorem dX4_become_39 : decode cX4_become 39 = .ok (.iload 4, 2) := by decide +kernel
theorem dX4_become_41 : decode cX4_become 41 = .ok (.iconst 1, 1) := by decide +kernel
theorem dX4_become_42 : decode cX4_become 42 = .ok (.if_icmp .le 36, 3) := by decide +kernel
theorem dX4_become_45 : decode cX4_become 45 = .ok (.aload_n 0, 1) := by decide +kernel
theorem dX4_become_46 : decode cX4_become 46 = .ok (.aload_n 0, 1) := by decide +kernel
theorem dX4_become_47 : decode cX4_become 47 = .ok (.getfield 9, 3) := by decide +kernel
theorem dX4_become_50 : decode cX4_become 50 = .ok (.iload 4, 2) := by decide +kernel
theorem dX4_become_52 : decode cX4_become 52 = .ok (.idiv, 1) := by decide +kernel
theorem dX4_become_53 : decode cX4_become 53 = .ok (.putfield 9, 3) := by decide +kernel
theorem dX4_become_56 : decode cX4_become 56 = .ok (.aload_n 0, 1) := by decide +kernel
theorem dX4_become_57 : decode cX4_become 57 = .ok (.aload_n 0, 1) := by decide +kernel
theorem dX4_become_58 : decode cX4_become 58 = .ok (.getfield 15, 3) := by decide +kernel
theorem dX4_become_61 : decode cX4_become 61 = .ok (.iload 4, 2) := by decide +kernel
theorem dX4_become_63 : decode cX4_become 63 = .ok (.idiv, 1) := by decide +kernel
theorem dX4_become_64 : decode cX4_become 64 = .ok (.putfield 15, 3) := by decide +kernel
theorem dX4_become_67 : decode cX4_become 67 = .ok (.aload_n 0, 1) := by decide +kernel
theorem dX4_become_68 : decode cX4_become 68 = .ok (.aload_n 0, 1) := by decide +kernel
theorem dX4_become_69 : decode cX4_become 69 = .ok (.getfield 18, 3) := by decide +kernel
theorem dX4_become_72 : decode cX4_become 72 = .ok (.iload 4, 2) := by decide +kernel
theorem dX4_become_74 : decode cX4_become 74 = .ok (.idiv, 1) := by decide +kernel
theorem dX4_become_75 : decode cX4_become 75 = .ok (.putfield 18, 3) := by decide +kernel
theorem dX4_become_78 : decode cX4_become 78 = .ok (.return_, 1) := by decide +kernel
theorem dX4_join_0 : decode cX4_join 0 = .ok (.iload_n 2, 1) := by decide +kernel
theorem dX4_join_1 : decode cX4_join 1 = .ok (.iload 4, 2) := by decide +kernel
theorem dX4_join_3 : decode cX4_join 3 = .ok (.isub, 1) := by decide +kernel
theorem dX4_join_4 : decode cX4_join 4 = .ok (.istore 5, 2) := by decide +kernel
theorem dX4_join_6 : decode cX4_join 6 = .ok (.iload_n 3, 1) := by decide +kernel
theorem dX4_join_7 : decode cX4_join 7 = .ok (.iload_n 1, 1) := by decide +kernel
theorem dX4_join_8 : decode cX4_join 8 = .ok (.isub, 1) := by decide +kernel
theorem dX4_join_9 : decode cX4_join 9 = .ok (.istore 6, 2) := by decide +kernel
theorem dX4_join_11 : decode cX4_join 11 = .ok (.iload 5, 2) := by decide +kernel
theorem dX4_join_13 : decode cX4_join 13 = .ok (.iload_n 1, 1) := by decide +kernel
theorem dX4_join_14 : decode cX4_join 14 = .ok (.imul, 1) := by decide +kernel
theorem dX4_join_15 : decode cX4_join 15 = .ok (.iload 6, 2) := by decide +kernel
theorem dX4_join_17 : decode cX4_join 17 = .ok (.iload_n 2, 1) := by decide +kernel
theorem dX4_join_18 : decode cX4_join 18 = .ok (.imul, 1) := by decide +kernel
theorem dX4_join_19 : decode cX4_join 19 = .ok (.iadd, 1) := by decide +kernel
theorem dX4_join_20 : decode cX4_join 20 = .ok (.ineg, 1) := by decide +kernel
theorem dX4_join_21 : decode cX4_join 21 = .ok (.istore 7, 2) := by decide +kernel
theorem dX4_join_23 : decode cX4_join 23 = .ok (.iload 5, 2) := by decide +kernel
theorem dX4_join_25 : decode cX4_join 25 = .ok (.ifCond .lt 13, 3) := by decide +kernel
theorem dX4_join_28 : decode cX4_join 28 = .ok (.iload 5, 2) := by decide +kernel
theorem dX4_join_30 : decode cX4_join 30 = .ok (.ifCond .ne 24, 3) := by decide +kernel
theorem dX4_join_33 : decode cX4_join 33 = .ok (.iload 6, 2) := by decide +kernel
theorem dX4_join_35 : decode cX4_join 35 = .ok (.ifCond .ge 19, 3) := by decide +kernel
theorem dX4_join_38 : decode cX4_join 38 = .ok (.aload_n 0, 1) := by decide +kernel
theorem dX4_join_39 : decode cX4_join 39 = .ok (.iload 5, 2) := by decide +kernel
theorem dX4_join_41 : decode cX4_join 41 = .ok (.ineg, 1) := by decide +kernel
theorem dX4_join_42 : decode cX4_join 42 = .ok (.iload 6, 2) := by decide +kernel
theorem dX4_join_44 : decode cX4_join 44 = .ok (.ineg, 1) := by decide +kernel
theorem dX4_join_45 : decode cX4_join 45 = .ok (.iload 7, 2) := by decide +kernel
theorem dX4_join_47 : decode cX4_join 47 = .ok (.ineg, 1) := by decide +kernel
theorem dX4_join_48 : decode cX4_join 48 = .ok (.invokevirtual 25, 3) := by decide +kernel
theorem dX4_join_51 : decode cX4_join 51 = .ok (.goto 13, 3) := by decide +kernel
theorem dX4_join_54 : decode cX4_join 54 = .ok (.aload_n 0, 1) := by decide +kernel
theorem dX4_join_55 : decode cX4_join 55 = .ok (.iload 5, 2) := by decide +kernel
theorem dX4_join_57 : decode cX4_join 57 = .ok (.iload 6, 2) := by decide +kernel
theorem dX4_join_59 : decode cX4_join 59 = .ok (.iload 7, 2) := by decide +kernel
theorem dX4_join_61 : decode cX4_join 61 = .ok (.invokevirtual 25, 3) := by decide +kernel
theorem dX4_join_64 : decode cX4_join 64 = .ok (.return_, 1) := by decide +kernel
theorem dX4_sideOf_0 : decode cX4_sideOf 0 = .ok (.aload_n 0, 1) := by decide +kernel
theorem dX4_sideOf_1 : decode cX4_sideOf 1 = .ok (.getfield 9, 3) := by decide +kernel
theorem dX4_sideOf_4 : decode cX4_sideOf 4 = .ok (.i2l, 1) := by decide +kernel
theorem dX4_sideOf_5 : decode cX4_sideOf 5 = .ok (.iload_n 1, 1) := by decide +kernel
theorem dX4_sideOf_6 : decode cX4_sideOf 6 = .ok (.i2l, 1) := by decide +kernel
theorem dX4_sideOf_7 : decode cX4_sideOf 7 = .ok (.lmul, 1) := by decide +kernel
theorem dX4_sideOf_8 : decode cX4_sideOf 8 = .ok (.aload_n 0, 1) := by decide +kernel
theorem dX4_sideOf_9 : decode cX4_sideOf 9 = .ok (.getfield 15, 3) := by decide +kernel
theorem dX4_sideOf_12 : decode cX4_sideOf 12 = .ok (.i2l, 1) := by decide +kernel
theorem dX4_sideOf_13 : decode cX4_sideOf 13 = .ok (.iload_n 2, 1) := by decide +kernel
theorem dX4_sideOf_14 : decode cX4_sideOf 14 = .ok (.i2l, 1) := by decide +kernel
theorem dX4_sideOf_15 : decode cX4_sideOf 15 = .ok (.lmul, 1) := by decide +kernel
theorem dX4_sideOf_16 : decode cX4_sideOf 16 = .ok (.ladd, 1) := by decide +kernel
theorem dX4_sideOf_17 : decode cX4_sideOf 17 = .ok (.aload_n 0, 1) := by decide +kernel
theorem dX4_sideOf_18 : decode cX4_sideOf 18 = .ok (.getfield 18, 3) := by decide +kernel
theorem dX4_sideOf_21 : decode cX4_sideOf 21 = .ok (.i2l, 1) := by decide +kernel
theorem dX4_sideOf_22 : decode cX4_sideOf 22 = .ok (.ladd, 1) := by decide +kernel
theorem dX4_sideOf_23 : decode cX4_sideOf 23 = .ok (.lstore_n 3, 1) := by decide +kernel
theorem dX4_sideOf_24 : decode cX4_sideOf 24 = .ok (.lload_n 3, 1) := by decide +kernel
theorem dX4_sideOf_25 : decode cX4_sideOf 25 = .ok (.lconst 0, 1) := by decide +kernel
theorem dX4_sideOf_26 : decode cX4_sideOf 26 = .ok (.lcmp, 1) := by decide +kernel
theorem dX4_sideOf_27 : decode cX4_sideOf 27 = .ok (.ifCond .ne 5, 3) := by decide +kernel
theorem dX4_sideOf_30 : decode cX4_sideOf 30 = .ok (.iconst 1, 1) := by decide +kernel
theorem dX4_sideOf_31 : decode cX4_sideOf 31 = .ok (.ireturn, 1) := by decide +kernel
theorem dX4_sideOf_32 : decode cX4_sideOf 32 = .ok (.lload_n 3, 1) := by decide +kernel
theorem dX4_sideOf_33 : decode cX4_sideOf 33 = .ok (.lconst 0, 1) := by decide +kernel
theorem dX4_sideOf_34 : decode cX4_sideOf 34 = .ok (.lcmp, 1) := by decide +kernel
theorem dX4_sideOf_35 : decode cX4_sideOf 35 = .ok (.ifCond .le 7, 3) := by decide +kernel
theorem dX4_sideOf_38 : decode cX4_sideOf 38 = .ok (.iconst 0, 1) := by decide +kernel
theorem dX4_sideOf_39 : decode cX4_sideOf 39 = .ok (.goto 4, 3) := by decide +kernel
theorem dX4_sideOf_42 : decode cX4_sideOf 42 = .ok (.iconst 2, 1) := by decide +kernel
theorem dX4_sideOf_43 : decode cX4_sideOf 43 = .ok (.ireturn, 1) := by decide +kernel
theorem dX5_init_0 : decode cX5_init 0 = .ok (.aload_n 0, 1) := by decide +kernel
theorem dX5_init_1 : decode cX5_init 1 = .ok (.invokespecial 3, 3) := by decide +kernel
theorem dX5_init_4 : decode cX5_init 4 = .ok (.aload_n 0, 1) := by decide +kernel
theorem dX5_init_5 : decode cX5_init 5 = .ok (.sipush 780, 3) := by decide +kernel
theorem dX5_init_8 : decode cX5_init 8 = .ok (.newarray .int, 2) := by decide +kernel
theorem dX5_init_10 : decode cX5_init 10 = .ok (.putfield 9, 3) := by decide +kernel
theorem dX5_init_13 : decode cX5_init 13 = .ok (.aload_n 0, 1) := by decide +kernel
theorem dX5_init_14 : decode cX5_init 14 = .ok (.sipush 780, 3) := by decide +kernel
theorem dX5_init_17 : decode cX5_init 17 = .ok (.newarray .int, 2) := by decide +kernel
theorem dX5_init_19 : decode cX5_init 19 = .ok (.putfield 15, 3) := by decide +kernel
theorem dX5_init_22 : decode cX5_init 22 = .ok (.aload_n 0, 1) := by decide +kernel
theorem dX5_init_23 : decode cX5_init 23 = .ok (.sipush 780, 3) := by decide +kernel
theorem dX5_init_26 : decode cX5_init 26 = .ok (.newarray .int, 2) := by decide +kernel
theorem dX5_init_28 : decode cX5_init 28 = .ok (.putfield 18, 3) := by decide +kernel
theorem dX5_init_31 : decode cX5_init 31 = .ok (.aload_n 0, 1) := by decide +kernel
theorem dX5_init_32 : decode cX5_init 32 = .ok (.sipush 780, 3) := by decide +kernel
theorem dX5_init_35 : decode cX5_init 35 = .ok (.newarray .int, 2) := by decide +kernel
theorem dX5_init_37 : decode cX5_init 37 = .ok (.putfield 21, 3) := by decide +kernel
theorem dX5_init_40 : decode cX5_init 40 = .ok (.aload_n 0, 1) := by decide +kernel
theorem dX5_init_41 : decode cX5_init 41 = .ok (.new 24, 3) := by decide +kernel
theorem dX5_init_44 : decode cX5_init 44 = .ok (.dup, 1) := by decide +kernel
theorem dX5_init_45 : decode cX5_init 45 = .ok (.invokespecial 26, 3) := by decide +kernel
theorem dX5_init_48 : decode cX5_init 48 = .ok (.putfield 27, 3) := by decide +kernel
theorem dX5_init_51 : decode cX5_init 51 = .ok (.return_, 1) := by decide +kernel
theorem dX5_gather_0 : decode cX5_gather 0 = .ok (.aload_n 0, 1) := by decide +kernel
theorem dX5_gather_1 : decode cX5_gather 1 = .ok (.iconst 0, 1) := by decide +kernel
theorem dX5_gather_2 : decode cX5_gather 2 = .ok (.putfield 31, 3) := by decide +kernel
theorem dX5_gather_5 : decode cX5_gather 5 = .ok (.aload_n 0, 1) := by decide +kernel
theorem dX5_gather_6 : decode cX5_gather 6 = .ok (.iconst 0, 1) := by decide +kernel
theorem dX5_gather_7 : decode cX5_gather 7 = .ok (.putfield 35, 3) := by decide +kernel
theorem dX5_gather_10 : decode cX5_gather 10 = .ok (.aload_n 0, 1) := by decide +kernel
theorem dX5_gather_11 : decode cX5_gather 11 = .ok (.iconst 0, 1) := by decide +kernel
theorem dX5_gather_12 : decode cX5_gather 12 = .ok (.putfield 38, 3) := by decide +kernel
theorem dX5_gather_15 : decode cX5_gather 15 = .ok (.aload_n 0, 1) := by decide +kernel
theorem dX5_gather_16 : decode cX5_gather 16 = .ok (.iconst 0, 1) := by decide +kernel
theorem dX5_gather_17 : decode cX5_gather 17 = .ok (.putfield 41, 3) := by decide +kernel
theorem dX5_gather_20 : decode cX5_gather 20 = .ok (.iconst 0, 1) := by decide +kernel
theorem dX5_gather_21 : decode cX5_gather 21 = .ok (.istore_n 2, 1) := by decide +kernel
theorem dX5_gather_22 : decode cX5_gather 22 = .ok (.iload_n 2, 1) := by decide +kernel
theorem dX5_gather_23 : decode cX5_gather 23 = .ok (.aload_n 1, 1) := by decide +kernel
theorem dX5_gather_24 : decode cX5_gather 24 = .ok (.getfield 45, 3) := by decide +kernel
theorem dX5_gather_27 : decode cX5_gather 27 = .ok (.if_icmp .ge 53, 3) := by decide +kernel
theorem dX5_gather_30 : decode cX5_gather 30 = .ok (.iload_n 2, 1) := by decide +kernel
theorem dX5_gather_31 : decode cX5_gather 31 = .ok (.iconst 1, 1) := by decide +kernel
theorem dX5_gather_32 : decode cX5_gather 32 = .ok (.iadd, 1) := by decide +kernel
theorem dX5_gather_33 : decode cX5_gather 33 = .ok (.istore_n 3, 1) := by decide +kernel
theorem dX5_gather_34 : decode cX5_gather 34 = .ok (.iload_n 3, 1) := by decide +kernel
theorem dX5_gather_35 : decode cX5_gather 35 = .ok (.aload_n 1, 1) := by decide +kernel
theorem dX5_gather_36 : decode cX5_gather 36 = .ok (.getfield 45, 3) := by decide +kernel
theorem dX5_gather_39 : decode cX5_gather 39 = .ok (.if_icmp .ge 35, 3) := by decide +kernel
theorem dX5_gather_42 : decode cX5_gather 42 = .ok (.aload_n 1, 1) := by decide +kernel
theorem dX5_gather_43 : decode cX5_gather 43 = .ok (.iload_n 2, 1) := by decide +kernel
theorem dX5_gather_44 : decode cX5_gather 44 = .ok (.iload_n 3, 1) := by decide +kernel
theorem dX5_gather_45 : decode cX5_gather 45 = .ok (.invokevirtual 48, 3) := by decide +kernel
theorem dX5_gather_48 : decode cX5_gather 48 = .ok (.ifCond .ne 20, 3) := by decide +kernel
theorem dX5_gather_51 : decode cX5_gather 51 = .ok (.aload_n 0, 1) := by decide +kernel
theorem dX5_gather_52 : decode cX5_gather 52 = .ok (.aload_n 1, 1) := by decide +kernel
theorem dX5_gather_53 : decode cX5_gather 53 = .ok (.iload_n 2, 1) := by decide +kernel
theorem dX5_gather_54 : decode cX5_gather 54 = .ok (.iload_n 3, 1) := by decide +kernel
theorem dX5_gather_55 : decode cX5_gather 55 = .ok (.invokevirtual 52, 3) := by decide +kernel
theorem dX5_gather_58 : decode cX5_gather 58 = .ok (.ifCond .eq 10, 3) := by decide +kernel
theorem dX5_gather_61 : decode cX5_gather 61 = .ok (.aload_n 0, 1) := by decide +kernel
theorem dX5_gather_62 : decode cX5_gather 62 = .ok (.aload_n 1, 1) := by decide +kernel
theorem dX5_gather_63 : decode cX5_gather 63 = .ok (.iload_n 2, 1) := by decide +kernel
theorem dX5_gather_64 : decode cX5_gather 64 = .ok (.iload_n 3, 1) := by decide +kernel
theorem dX5_gather_65 : decode cX5_gather 65 = .ok (.invokevirtual 56, 3) := by decide +kernel
theorem dX5_gather_68 : decode cX5_gather 68 = .ok (.iinc 3 1, 3) := by decide +kernel
theorem dX5_gather_71 : decode cX5_gather 71 = .ok (.goto (-37), 3) := by decide +kernel
theorem dX5_gather_74 : decode cX5_gather 74 = .ok (.iinc 2 1, 3) := by decide +kernel
theorem dX5_gather_77 : decode cX5_gather 77 = .ok (.goto (-55), 3) := by decide +kernel
theorem dX5_gather_80 : decode cX5_gather 80 = .ok (.aload_n 0, 1) := by decide +kernel
theorem dX5_gather_81 : decode cX5_gather 81 = .ok (.iconst 1, 1) := by decide +kernel
theorem dX5_gather_82 : decode cX5_gather 82 = .ok (.putfield 60, 3) := by decide +kernel
theorem dX5_gather_85 : decode cX5_gather 85 = .ok (.return_, 1) := by decide +kernel
theorem dX5_isFirstPair_0 : decode cX5_isFirstPair 0 = .ok (.iconst 0, 1) := by decide +kernel
theorem dX5_isFirstPair_1 : decode cX5_isFirstPair 1 = .ok (.istore 4, 2) := by decide +kernel
theorem dX5_isFirstPair_3 : decode cX5_isFirstPair 3 = .ok (.iload 4, 2) := by decide +kernel
theorem dX5_isFirstPair_5 : decode cX5_isFirstPair 5 = .ok (.iload_n 3, 1) := by decide +kernel
theorem dX5_isFirstPair_6 : decode cX5_isFirstPair 6 = .ok (.if_icmp .ge 56, 3) := by decide +kernel
theorem dX5_isFirstPair_9 : decode cX5_isFirstPair 9 = .ok (.iload 4, 2) := by decide +kernel
theorem dX5_isFirstPair_11 : decode cX5_isFirstPair 11 = .ok (.iload_n 2, 1) := by decide +kernel
theorem dX5_isFirstPair_12 : decode cX5_isFirstPair 12 = .ok (.if_icmp .lt 19, 3) := by decide +kernel
theorem dX5_isFirstPair_15 : decode cX5_isFirstPair 15 = .ok (.iload 4, 2) := by decide +kernel
theorem dX5_isFirstPair_17 : decode cX5_isFirstPair 17 = .ok (.iload_n 2, 1) := by decide +kernel
theorem dX5_isFirstPair_18 : decode cX5_isFirstPair 18 = .ok (.if_icmp .le 17, 3) := by decide +kernel
theorem dX5_isFirstPair_21 : decode cX5_isFirstPair 21 = .ok (.aload_n 1, 1) := by decide +kernel
theorem dX5_isFirstPair_22 : decode cX5_isFirstPair 22 = .ok (.iload_n 2, 1) := by decide +kernel
theorem dX5_isFirstPair_23 : decode cX5_isFirstPair 23 = .ok (.iload 4, 2) := by decide +kernel
theorem dX5_isFirstPair_25 : decode cX5_isFirstPair 25 = .ok (.invokevirtual 48, 3) := by decide +kernel
theorem dX5_isFirstPair_28 : decode cX5_isFirstPair 28 = .ok (.ifCond .ne 7, 3) := by decide +kernel
theorem dX5_isFirstPair_31 : decode cX5_isFirstPair 31 = .ok (.iconst 1, 1) := by decide +kernel
theorem dX5_isFirstPair_32 : decode cX5_isFirstPair 32 = .ok (.goto 4, 3) := by decide +kernel
theorem dX5_isFirstPair_35 : decode cX5_isFirstPair 35 = .ok (.iconst 0, 1) := by decide +kernel
theorem dX5_isFirstPair_36 : decode cX5_isFirstPair 36 = .ok (.istore 5, 2) := by decide +kernel
theorem dX5_isFirstPair_38 : decode cX5_isFirstPair 38 = .ok (.iload 5, 2) := by decide +kernel
theorem dX5_isFirstPair_40 : decode cX5_isFirstPair 40 = .ok (.ifCond .eq 16, 3) := by decide +kernel
theorem dX5_isFirstPair_43 : decode cX5_isFirstPair 43 = .ok (.aload_n 1, 1) := by decide +kernel
theorem dX5_isFirstPair_44 : decode cX5_isFirstPair 44 = .ok (.iload_n 2, 1) := by decide +kernel
theorem dX5_isFirstPair_45 : decode cX5_isFirstPair 45 = .ok (.iload_n 3, 1) := by decide +kernel
theorem dX5_isFirstPair_46 : decode cX5_isFirstPair 46 = .ok (.iload 4, 2) := by decide +kernel
theorem dX5_isFirstPair_48 : decode cX5_isFirstPair 48 = .ok (.invokevirtual 63, 3) := by decide +kernel
theorem dX5_isFirstPair_51 : decode cX5_isFirstPair 51 = .ok (.ifCond .ne 5, 3) := by decide +kernel
theorem dX5_isFirstPair_54 : decode cX5_isFirstPair 54 = .ok (.iconst 0, 1) := by decide +kernel
theorem dX5_isFirstPair_55 : decode cX5_isFirstPair 55 = .ok (.ireturn, 1) := by decide +kernel
theorem dX5_isFirstPair_56 : decode cX5_isFirstPair 56 = .ok (.iinc 4 1, 3) := by decide +kernel
theorem dX5_isFirstPair_59 : decode cX5_isFirstPair 59 = .ok (.goto (-56), 3) := by decide +kernel
theorem dX5_isFirstPair_62 : decode cX5_isFirstPair 62 = .ok (.iconst 1, 1) := by decide +kernel
theorem dX5_isFirstPair_63 : decode cX5_isFirstPair 63 = .ok (.ireturn, 1) := by decide +kernel
theorem dX5_add_0 : decode cX5_add 0 = .ok (.aload_n 0, 1) := by decide +kernel
theorem dX5_add_1 : decode cX5_add 1 = .ok (.getfield 31, 3) := by decide +kernel
theorem dX5_add_4 : decode cX5_add 4 = .ok (.sipush 780, 3) := by decide +kernel
theorem dX5_add_7 : decode cX5_add 7 = .ok (.if_icmp .lt 4, 3) := by decide +kernel
theorem dX5_add_10 : decode cX5_add 10 = .ok (.return_, 1) := by decide +kernel
theorem dX5_add_11 : decode cX5_add 11 = .ok (.aload_n 0, 1) := by decide +kernel
theorem dX5_add_12 : decode cX5_add 12 = .ok (.getfield 27, 3) := by decide +kernel
theorem dX5_add_15 : decode cX5_add 15 = .ok (.aload_n 1, 1) := by decide +kernel
theorem dX5_add_16 : decode cX5_add 16 = .ok (.getfield 67, 3) := by decide +kernel
theorem dX5_add_19 : decode cX5_add 19 = .ok (.iload_n 2, 1) := by decide +kernel
theorem dX5_add_20 : decode cX5_add 20 = .ok (.iaload, 1) := by decide +kernel
theorem dX5_add_21 : decode cX5_add 21 = .ok (.aload_n 1, 1) := by decide +kernel
theorem dX5_add_22 : decode cX5_add 22 = .ok (.getfield 70, 3) := by decide +kernel
theorem dX5_add_25 : decode cX5_add 25 = .ok (.iload_n 2, 1) := by decide +kernel
theorem dX5_add_26 : decode cX5_add 26 = .ok (.iaload, 1) := by decide +kernel
end
section
theorem dX5_add_27 : decode cX5_add 27 = .ok (.aload_n 1, 1) := by decide +kernel
theorem dX5_add_28 : decode cX5_add 28 = .ok (.getfield 67, 3) := by decide +kernel
theorem dX5_add_31 : decode cX5_add 31 = .ok (.iload_n 3, 1) := by decide +kernel
theorem dX5_add_32 : decode cX5_add 32 = .ok (.iaload, 1) := by decide +kernel
theorem dX5_add_33 : decode cX5_add 33 = .ok (.aload_n 1, 1) := by decide +kernel
theorem dX5_add_34 : decode cX5_add 34 = .ok (.getfield 70, 3) := by decide +kernel
theorem dX5_add_37 : decode cX5_add 37 = .ok (.iload_n 3, 1) := by decide +kernel
theorem dX5_add_38 : decode cX5_add 38 = .ok (.iaload, 1) := by decide +kernel
theorem dX5_add_39 : decode cX5_add 39 = .ok (.invokevirtual 73, 3) := by decide +kernel
theorem dX5_add_42 : decode cX5_add 42 = .ok (.aload_n 0, 1) := by decide +kernel
theorem dX5_add_43 : decode cX5_add 43 = .ok (.getfield 9, 3) := by decide +kernel
theorem dX5_add_46 : decode cX5_add 46 = .ok (.aload_n 0, 1) := by decide +kernel
theorem dX5_add_47 : decode cX5_add 47 = .ok (.getfield 31, 3) := by decide +kernel
theorem dX5_add_50 : decode cX5_add 50 = .ok (.aload_n 0, 1) := by decide +kernel
theorem dX5_add_51 : decode cX5_add 51 = .ok (.getfield 27, 3) := by decide +kernel
theorem dX5_add_54 : decode cX5_add 54 = .ok (.getfield 77, 3) := by decide +kernel
theorem dX5_add_57 : decode cX5_add 57 = .ok (.iastore, 1) := by decide +kernel
theorem dX5_add_58 : decode cX5_add 58 = .ok (.aload_n 0, 1) := by decide +kernel
theorem dX5_add_59 : decode cX5_add 59 = .ok (.getfield 15, 3) := by decide +kernel
theorem dX5_add_62 : decode cX5_add 62 = .ok (.aload_n 0, 1) := by decide +kernel
theorem dX5_add_63 : decode cX5_add 63 = .ok (.getfield 31, 3) := by decide +kernel
theorem dX5_add_66 : decode cX5_add 66 = .ok (.aload_n 0, 1) := by decide +kernel
theorem dX5_add_67 : decode cX5_add 67 = .ok (.getfield 27, 3) := by decide +kernel
theorem dX5_add_70 : decode cX5_add 70 = .ok (.getfield 79, 3) := by decide +kernel
theorem dX5_add_73 : decode cX5_add 73 = .ok (.iastore, 1) := by decide +kernel
theorem dX5_add_74 : decode cX5_add 74 = .ok (.aload_n 0, 1) := by decide +kernel
theorem dX5_add_75 : decode cX5_add 75 = .ok (.getfield 18, 3) := by decide +kernel
theorem dX5_add_78 : decode cX5_add 78 = .ok (.aload_n 0, 1) := by decide +kernel
theorem dX5_add_79 : decode cX5_add 79 = .ok (.getfield 31, 3) := by decide +kernel
theorem dX5_add_82 : decode cX5_add 82 = .ok (.aload_n 0, 1) := by decide +kernel
theorem dX5_add_83 : decode cX5_add 83 = .ok (.getfield 27, 3) := by decide +kernel
theorem dX5_add_86 : decode cX5_add 86 = .ok (.getfield 81, 3) := by decide +kernel
theorem dX5_add_89 : decode cX5_add 89 = .ok (.iastore, 1) := by decide +kernel
theorem dX5_add_90 : decode cX5_add 90 = .ok (.aload_n 0, 1) := by decide +kernel
theorem dX5_add_91 : decode cX5_add 91 = .ok (.dup, 1) := by decide +kernel
theorem dX5_add_92 : decode cX5_add 92 = .ok (.getfield 31, 3) := by decide +kernel
theorem dX5_add_95 : decode cX5_add 95 = .ok (.iconst 1, 1) := by decide +kernel
theorem dX5_add_96 : decode cX5_add 96 = .ok (.iadd, 1) := by decide +kernel
theorem dX5_add_97 : decode cX5_add 97 = .ok (.putfield 31, 3) := by decide +kernel
theorem dX5_add_100 : decode cX5_add 100 = .ok (.aload_n 0, 1) := by decide +kernel
theorem dX5_add_101 : decode cX5_add 101 = .ok (.aload_n 1, 1) := by decide +kernel
theorem dX5_add_102 : decode cX5_add 102 = .ok (.iload_n 2, 1) := by decide +kernel
theorem dX5_add_103 : decode cX5_add 103 = .ok (.iload_n 3, 1) := by decide +kernel
theorem dX5_add_104 : decode cX5_add 104 = .ok (.invokevirtual 83, 3) := by decide +kernel
theorem dX5_add_107 : decode cX5_add 107 = .ok (.istore 4, 2) := by decide +kernel
theorem dX5_add_109 : decode cX5_add 109 = .ok (.aload_n 0, 1) := by decide +kernel
theorem dX5_add_110 : decode cX5_add 110 = .ok (.aload_n 0, 1) := by decide +kernel
theorem dX5_add_111 : decode cX5_add 111 = .ok (.getfield 35, 3) := by decide +kernel
theorem dX5_add_114 : decode cX5_add 114 = .ok (.iload 4, 2) := by decide +kernel
theorem dX5_add_116 : decode cX5_add 116 = .ok (.invokestatic 87, 3) := by decide +kernel
theorem dX5_add_119 : decode cX5_add 119 = .ok (.putfield 35, 3) := by decide +kernel
theorem dX5_add_122 : decode cX5_add 122 = .ok (.aload_n 0, 1) := by decide +kernel
theorem dX5_add_123 : decode cX5_add 123 = .ok (.aload_n 0, 1) := by decide +kernel
theorem dX5_add_124 : decode cX5_add 124 = .ok (.getfield 31, 3) := by decide +kernel
theorem dX5_add_127 : decode cX5_add 127 = .ok (.iconst 1, 1) := by decide +kernel
theorem dX5_add_128 : decode cX5_add 128 = .ok (.if_icmp .ne 8, 3) := by decide +kernel
theorem dX5_add_131 : decode cX5_add 131 = .ok (.iload 4, 2) := by decide +kernel
theorem dX5_add_133 : decode cX5_add 133 = .ok (.goto 12, 3) := by decide +kernel
theorem dX5_add_136 : decode cX5_add 136 = .ok (.aload_n 0, 1) := by decide +kernel
theorem dX5_add_137 : decode cX5_add 137 = .ok (.getfield 38, 3) := by decide +kernel
theorem dX5_add_140 : decode cX5_add 140 = .ok (.iload 4, 2) := by decide +kernel
theorem dX5_add_142 : decode cX5_add 142 = .ok (.invokestatic 93, 3) := by decide +kernel
theorem dX5_add_145 : decode cX5_add 145 = .ok (.putfield 38, 3) := by decide +kernel
theorem dX5_add_148 : decode cX5_add 148 = .ok (.return_, 1) := by decide +kernel
theorem dX5_plantsOn_0 : decode cX5_plantsOn 0 = .ok (.iconst 0, 1) := by decide +kernel
theorem dX5_plantsOn_1 : decode cX5_plantsOn 1 = .ok (.istore 4, 2) := by decide +kernel
theorem dX5_plantsOn_3 : decode cX5_plantsOn 3 = .ok (.iconst 0, 1) := by decide +kernel
theorem dX5_plantsOn_4 : decode cX5_plantsOn 4 = .ok (.istore 5, 2) := by decide +kernel
theorem dX5_plantsOn_6 : decode cX5_plantsOn 6 = .ok (.iload 5, 2) := by decide +kernel
theorem dX5_plantsOn_8 : decode cX5_plantsOn 8 = .ok (.aload_n 1, 1) := by decide +kernel
theorem dX5_plantsOn_9 : decode cX5_plantsOn 9 = .ok (.getfield 45, 3) := by decide +kernel
theorem dX5_plantsOn_12 : decode cX5_plantsOn 12 = .ok (.if_icmp .ge 23, 3) := by decide +kernel
theorem dX5_plantsOn_15 : decode cX5_plantsOn 15 = .ok (.aload_n 1, 1) := by decide +kernel
theorem dX5_plantsOn_16 : decode cX5_plantsOn 16 = .ok (.iload_n 2, 1) := by decide +kernel
theorem dX5_plantsOn_17 : decode cX5_plantsOn 17 = .ok (.iload_n 3, 1) := by decide +kernel
theorem dX5_plantsOn_18 : decode cX5_plantsOn 18 = .ok (.iload 5, 2) := by decide +kernel
theorem dX5_plantsOn_20 : decode cX5_plantsOn 20 = .ok (.invokevirtual 63, 3) := by decide +kernel
theorem dX5_plantsOn_23 : decode cX5_plantsOn 23 = .ok (.ifCond .ne 6, 3) := by decide +kernel
theorem dX5_plantsOn_26 : decode cX5_plantsOn 26 = .ok (.iinc 4 1, 3) := by decide +kernel
theorem dX5_plantsOn_29 : decode cX5_plantsOn 29 = .ok (.iinc 5 1, 3) := by decide +kernel
theorem dX5_plantsOn_32 : decode cX5_plantsOn 32 = .ok (.goto (-26), 3) := by decide +kernel
theorem dX5_plantsOn_35 : decode cX5_plantsOn 35 = .ok (.iload 4, 2) := by decide +kernel
theorem dX5_plantsOn_37 : decode cX5_plantsOn 37 = .ok (.ireturn, 1) := by decide +kernel
theorem dX5_furrowCount_0 : decode cX5_furrowCount 0 = .ok (.aload_n 0, 1) := by decide +kernel
theorem dX5_furrowCount_1 : decode cX5_furrowCount 1 = .ok (.getfield 41, 3) := by decide +kernel
theorem dX5_furrowCount_4 : decode cX5_furrowCount 4 = .ok (.ifCond .ne 8, 3) := by decide +kernel
theorem dX5_furrowCount_7 : decode cX5_furrowCount 7 = .ok (.aload_n 0, 1) := by decide +kernel
theorem dX5_furrowCount_8 : decode cX5_furrowCount 8 = .ok (.aload_n 1, 1) := by decide +kernel
theorem dX5_furrowCount_9 : decode cX5_furrowCount 9 = .ok (.invokevirtual 96, 3) := by decide +kernel
theorem dX5_furrowCount_12 : decode cX5_furrowCount 12 = .ok (.aload_n 0, 1) := by decide +kernel
theorem dX5_furrowCount_13 : decode cX5_furrowCount 13 = .ok (.getfield 31, 3) := by decide +kernel
theorem dX5_furrowCount_16 : decode cX5_furrowCount 16 = .ok (.ifCond .ne 7, 3) := by decide +kernel
theorem dX5_furrowCount_19 : decode cX5_furrowCount 19 = .ok (.iconst 1, 1) := by decide +kernel
theorem dX5_furrowCount_20 : decode cX5_furrowCount 20 = .ok (.goto 7, 3) := by decide +kernel
theorem dX5_furrowCount_23 : decode cX5_furrowCount 23 = .ok (.aload_n 0, 1) := by decide +kernel
theorem dX5_furrowCount_24 : decode cX5_furrowCount 24 = .ok (.getfield 100, 3) := by decide +kernel
theorem dX5_furrowCount_27 : decode cX5_furrowCount 27 = .ok (.ireturn, 1) := by decide +kernel
theorem dX5_findFurrows_0 : decode cX5_findFurrows 0 = .ok (.aload_n 0, 1) := by decide +kernel
theorem dX5_findFurrows_1 : decode cX5_findFurrows 1 = .ok (.iconst 0, 1) := by decide +kernel
theorem dX5_findFurrows_2 : decode cX5_findFurrows 2 = .ok (.putfield 100, 3) := by decide +kernel
theorem dX5_findFurrows_5 : decode cX5_findFurrows 5 = .ok (.iconst 0, 1) := by decide +kernel
theorem dX5_findFurrows_6 : decode cX5_findFurrows 6 = .ok (.istore_n 2, 1) := by decide +kernel
theorem dX5_findFurrows_7 : decode cX5_findFurrows 7 = .ok (.iload_n 2, 1) := by decide +kernel
theorem dX5_findFurrows_8 : decode cX5_findFurrows 8 = .ok (.aload_n 0, 1) := by decide +kernel
theorem dX5_findFurrows_9 : decode cX5_findFurrows 9 = .ok (.getfield 31, 3) := by decide +kernel
theorem dX5_findFurrows_12 : decode cX5_findFurrows 12 = .ok (.if_icmp .ge 78, 3) := by decide +kernel
theorem dX5_findFurrows_15 : decode cX5_findFurrows 15 = .ok (.aload_n 0, 1) := by decide +kernel
theorem dX5_findFurrows_16 : decode cX5_findFurrows 16 = .ok (.getfield 27, 3) := by decide +kernel
theorem dX5_findFurrows_19 : decode cX5_findFurrows 19 = .ok (.aload_n 0, 1) := by decide +kernel
theorem dX5_findFurrows_20 : decode cX5_findFurrows 20 = .ok (.getfield 9, 3) := by decide +kernel
theorem dX5_findFurrows_23 : decode cX5_findFurrows 23 = .ok (.iload_n 2, 1) := by decide +kernel
theorem dX5_findFurrows_24 : decode cX5_findFurrows 24 = .ok (.iaload, 1) := by decide +kernel
theorem dX5_findFurrows_25 : decode cX5_findFurrows 25 = .ok (.aload_n 0, 1) := by decide +kernel
theorem dX5_findFurrows_26 : decode cX5_findFurrows 26 = .ok (.getfield 15, 3) := by decide +kernel
theorem dX5_findFurrows_29 : decode cX5_findFurrows 29 = .ok (.iload_n 2, 1) := by decide +kernel
theorem dX5_findFurrows_30 : decode cX5_findFurrows 30 = .ok (.iaload, 1) := by decide +kernel
theorem dX5_findFurrows_31 : decode cX5_findFurrows 31 = .ok (.aload_n 0, 1) := by decide +kernel
theorem dX5_findFurrows_32 : decode cX5_findFurrows 32 = .ok (.getfield 18, 3) := by decide +kernel
theorem dX5_findFurrows_35 : decode cX5_findFurrows 35 = .ok (.iload_n 2, 1) := by decide +kernel
theorem dX5_findFurrows_36 : decode cX5_findFurrows 36 = .ok (.iaload, 1) := by decide +kernel
theorem dX5_findFurrows_37 : decode cX5_findFurrows 37 = .ok (.invokevirtual 103, 3) := by decide +kernel
theorem dX5_findFurrows_40 : decode cX5_findFurrows 40 = .ok (.aload_n 1, 1) := by decide +kernel
theorem dX5_findFurrows_41 : decode cX5_findFurrows 41 = .ok (.aload_n 0, 1) := by decide +kernel
theorem dX5_findFurrows_42 : decode cX5_findFurrows 42 = .ok (.getfield 27, 3) := by decide +kernel
theorem dX5_findFurrows_45 : decode cX5_findFurrows 45 = .ok (.iconst 0, 1) := by decide +kernel
theorem dX5_findFurrows_46 : decode cX5_findFurrows 46 = .ok (.invokevirtual 107, 3) := by decide +kernel
theorem dX5_findFurrows_49 : decode cX5_findFurrows 49 = .ok (.ifCond .eq 35, 3) := by decide +kernel
theorem dX5_findFurrows_52 : decode cX5_findFurrows 52 = .ok (.aload_n 1, 1) := by decide +kernel
theorem dX5_findFurrows_53 : decode cX5_findFurrows 53 = .ok (.aload_n 0, 1) := by decide +kernel
theorem dX5_findFurrows_54 : decode cX5_findFurrows 54 = .ok (.getfield 27, 3) := by decide +kernel
theorem dX5_findFurrows_57 : decode cX5_findFurrows 57 = .ok (.iconst 1, 1) := by decide +kernel
theorem dX5_findFurrows_58 : decode cX5_findFurrows 58 = .ok (.invokevirtual 107, 3) := by decide +kernel
theorem dX5_findFurrows_61 : decode cX5_findFurrows 61 = .ok (.ifCond .eq 23, 3) := by decide +kernel
theorem dX5_findFurrows_64 : decode cX5_findFurrows 64 = .ok (.aload_n 0, 1) := by decide +kernel
theorem dX5_findFurrows_65 : decode cX5_findFurrows 65 = .ok (.getfield 21, 3) := by decide +kernel
theorem dX5_findFurrows_68 : decode cX5_findFurrows 68 = .ok (.aload_n 0, 1) := by decide +kernel
theorem dX5_findFurrows_69 : decode cX5_findFurrows 69 = .ok (.getfield 100, 3) := by decide +kernel
theorem dX5_findFurrows_72 : decode cX5_findFurrows 72 = .ok (.iload_n 2, 1) := by decide +kernel
theorem dX5_findFurrows_73 : decode cX5_findFurrows 73 = .ok (.iastore, 1) := by decide +kernel
theorem dX5_findFurrows_74 : decode cX5_findFurrows 74 = .ok (.aload_n 0, 1) := by decide +kernel
theorem dX5_findFurrows_75 : decode cX5_findFurrows 75 = .ok (.dup, 1) := by decide +kernel
theorem dX5_findFurrows_76 : decode cX5_findFurrows 76 = .ok (.getfield 100, 3) := by decide +kernel
theorem dX5_findFurrows_79 : decode cX5_findFurrows 79 = .ok (.iconst 1, 1) := by decide +kernel
theorem dX5_findFurrows_80 : decode cX5_findFurrows 80 = .ok (.iadd, 1) := by decide +kernel
theorem dX5_findFurrows_81 : decode cX5_findFurrows 81 = .ok (.putfield 100, 3) := by decide +kernel
theorem dX5_findFurrows_84 : decode cX5_findFurrows 84 = .ok (.iinc 2 1, 3) := by decide +kernel
theorem dX5_findFurrows_87 : decode cX5_findFurrows 87 = .ok (.goto (-80), 3) := by decide +kernel
theorem dX5_findFurrows_90 : decode cX5_findFurrows 90 = .ok (.aload_n 0, 1) := by decide +kernel
theorem dX5_findFurrows_91 : decode cX5_findFurrows 91 = .ok (.iconst 1, 1) := by decide +kernel
theorem dX5_findFurrows_92 : decode cX5_findFurrows 92 = .ok (.putfield 41, 3) := by decide +kernel
theorem dX5_findFurrows_95 : decode cX5_findFurrows 95 = .ok (.return_, 1) := by decide +kernel
theorem dX5_giveFurrow_0 : decode cX5_giveFurrow 0 = .ok (.aload_n 0, 1) := by decide +kernel
theorem dX5_giveFurrow_1 : decode cX5_giveFurrow 1 = .ok (.getfield 31, 3) := by decide +kernel
theorem dX5_giveFurrow_4 : decode cX5_giveFurrow 4 = .ok (.ifCond .ne 26, 3) := by decide +kernel
theorem dX5_giveFurrow_7 : decode cX5_giveFurrow 7 = .ok (.aload_n 1, 1) := by decide +kernel
theorem dX5_giveFurrow_8 : decode cX5_giveFurrow 8 = .ok (.getfield 45, 3) := by decide +kernel
theorem dX5_giveFurrow_11 : decode cX5_giveFurrow 11 = .ok (.ifCond .le 19, 3) := by decide +kernel
theorem dX5_giveFurrow_14 : decode cX5_giveFurrow 14 = .ok (.aload_n 3, 1) := by decide +kernel
theorem dX5_giveFurrow_15 : decode cX5_giveFurrow 15 = .ok (.iconst 0, 1) := by decide +kernel
theorem dX5_giveFurrow_16 : decode cX5_giveFurrow 16 = .ok (.iconst 1, 1) := by decide +kernel
theorem dX5_giveFurrow_17 : decode cX5_giveFurrow 17 = .ok (.aload_n 1, 1) := by decide +kernel
theorem dX5_giveFurrow_18 : decode cX5_giveFurrow 18 = .ok (.getfield 70, 3) := by decide +kernel
theorem dX5_giveFurrow_21 : decode cX5_giveFurrow 21 = .ok (.iconst 0, 1) := by decide +kernel
theorem dX5_giveFurrow_22 : decode cX5_giveFurrow 22 = .ok (.iaload, 1) := by decide +kernel
theorem dX5_giveFurrow_23 : decode cX5_giveFurrow 23 = .ok (.ineg, 1) := by decide +kernel
theorem dX5_giveFurrow_24 : decode cX5_giveFurrow 24 = .ok (.invokevirtual 103, 3) := by decide +kernel
theorem dX5_giveFurrow_27 : decode cX5_giveFurrow 27 = .ok (.goto 47, 3) := by decide +kernel
theorem dX5_giveFurrow_30 : decode cX5_giveFurrow 30 = .ok (.iload_n 2, 1) := by decide +kernel
theorem dX5_giveFurrow_31 : decode cX5_giveFurrow 31 = .ok (.aload_n 0, 1) := by decide +kernel
theorem dX5_giveFurrow_32 : decode cX5_giveFurrow 32 = .ok (.getfield 100, 3) := by decide +kernel
theorem dX5_giveFurrow_35 : decode cX5_giveFurrow 35 = .ok (.invokestatic 111, 3) := by decide +kernel
theorem dX5_giveFurrow_38 : decode cX5_giveFurrow 38 = .ok (.ifCond .eq 36, 3) := by decide +kernel
theorem dX5_giveFurrow_41 : decode cX5_giveFurrow 41 = .ok (.aload_n 0, 1) := by decide +kernel
theorem dX5_giveFurrow_42 : decode cX5_giveFurrow 42 = .ok (.getfield 21, 3) := by decide +kernel
theorem dX5_giveFurrow_45 : decode cX5_giveFurrow 45 = .ok (.iload_n 2, 1) := by decide +kernel
theorem dX5_giveFurrow_46 : decode cX5_giveFurrow 46 = .ok (.iaload, 1) := by decide +kernel
theorem dX5_giveFurrow_47 : decode cX5_giveFurrow 47 = .ok (.istore 4, 2) := by decide +kernel
theorem dX5_giveFurrow_49 : decode cX5_giveFurrow 49 = .ok (.aload_n 3, 1) := by decide +kernel
theorem dX5_giveFurrow_50 : decode cX5_giveFurrow 50 = .ok (.aload_n 0, 1) := by decide +kernel
theorem dX5_giveFurrow_51 : decode cX5_giveFurrow 51 = .ok (.getfield 9, 3) := by decide +kernel
theorem dX5_giveFurrow_54 : decode cX5_giveFurrow 54 = .ok (.iload 4, 2) := by decide +kernel
theorem dX5_giveFurrow_56 : decode cX5_giveFurrow 56 = .ok (.iaload, 1) := by decide +kernel
theorem dX5_giveFurrow_57 : decode cX5_giveFurrow 57 = .ok (.aload_n 0, 1) := by decide +kernel
theorem dX5_giveFurrow_58 : decode cX5_giveFurrow 58 = .ok (.getfield 15, 3) := by decide +kernel
theorem dX5_giveFurrow_61 : decode cX5_giveFurrow 61 = .ok (.iload 4, 2) := by decide +kernel
theorem dX5_giveFurrow_63 : decode cX5_giveFurrow 63 = .ok (.iaload, 1) := by decide +kernel
theorem dX5_giveFurrow_64 : decode cX5_giveFurrow 64 = .ok (.aload_n 0, 1) := by decide +kernel
theorem dX5_giveFurrow_65 : decode cX5_giveFurrow 65 = .ok (.getfield 18, 3) := by decide +kernel
theorem dX5_giveFurrow_68 : decode cX5_giveFurrow 68 = .ok (.iload 4, 2) := by decide +kernel
theorem dX5_giveFurrow_70 : decode cX5_giveFurrow 70 = .ok (.iaload, 1) := by decide +kernel
theorem dX5_giveFurrow_71 : decode cX5_giveFurrow 71 = .ok (.invokevirtual 103, 3) := by decide +kernel
theorem dX5_giveFurrow_74 : decode cX5_giveFurrow 74 = .ok (.return_, 1) := by decide +kernel
theorem dX6_init_0 : decode cX6_init 0 = .ok (.aload_n 0, 1) := by decide +kernel
theorem dX6_init_1 : decode cX6_init 1 = .ok (.invokespecial 3, 3) := by decide +kernel
theorem dX6_init_4 : decode cX6_init 4 = .ok (.return_, 1) := by decide +kernel
theorem dX6_begin_0 : decode cX6_begin 0 = .ok (.aload_n 0, 1) := by decide +kernel
theorem dX6_begin_1 : decode cX6_begin 1 = .ok (.iload_n 1, 1) := by decide +kernel
theorem dX6_begin_2 : decode cX6_begin 2 = .ok (.putfield 9, 3) := by decide +kernel
theorem dX6_begin_5 : decode cX6_begin 5 = .ok (.aload_n 0, 1) := by decide +kernel
theorem dX6_begin_6 : decode cX6_begin 6 = .ok (.iload_n 2, 1) := by decide +kernel
theorem dX6_begin_7 : decode cX6_begin 7 = .ok (.putfield 15, 3) := by decide +kernel
theorem dX6_begin_10 : decode cX6_begin 10 = .ok (.aload_n 0, 1) := by decide +kernel
theorem dX6_begin_11 : decode cX6_begin 11 = .ok (.iload_n 3, 1) := by decide +kernel
theorem dX6_begin_12 : decode cX6_begin 12 = .ok (.putfield 18, 3) := by decide +kernel
theorem dX6_begin_15 : decode cX6_begin 15 = .ok (.aload_n 0, 1) := by decide +kernel
theorem dX6_begin_16 : decode cX6_begin 16 = .ok (.iconst 1, 1) := by decide +kernel
theorem dX6_begin_17 : decode cX6_begin 17 = .ok (.putfield 21, 3) := by decide +kernel
theorem dX6_begin_20 : decode cX6_begin 20 = .ok (.aload_n 0, 1) := by decide +kernel
theorem dX6_begin_21 : decode cX6_begin 21 = .ok (.iconst 0, 1) := by decide +kernel
theorem dX6_begin_22 : decode cX6_begin 22 = .ok (.aload 4, 2) := by decide +kernel
theorem dX6_begin_24 : decode cX6_begin 24 = .ok (.invokevirtual 25, 3) := by decide +kernel
theorem dX6_begin_27 : decode cX6_begin 27 = .ok (.return_, 1) := by decide +kernel
theorem dX6_paint_0 : decode cX6_paint 0 = .ok (.aload_n 0, 1) := by decide +kernel
theorem dX6_paint_1 : decode cX6_paint 1 = .ok (.iload_n 1, 1) := by decide +kernel
theorem dX6_paint_2 : decode cX6_paint 2 = .ok (.putfield 29, 3) := by decide +kernel
theorem dX6_paint_5 : decode cX6_paint 5 = .ok (.aload_n 0, 1) := by decide +kernel
theorem dX6_paint_6 : decode cX6_paint 6 = .ok (.aload_n 0, 1) := by decide +kernel
theorem dX6_paint_7 : decode cX6_paint 7 = .ok (.iconst 0, 1) := by decide +kernel
theorem dX6_paint_8 : decode cX6_paint 8 = .ok (.aload_n 2, 1) := by decide +kernel
theorem dX6_paint_9 : decode cX6_paint 9 = .ok (.iconst 0, 1) := by decide +kernel
theorem dX6_paint_10 : decode cX6_paint 10 = .ok (.invokevirtual 32, 3) := by decide +kernel
theorem dX6_paint_13 : decode cX6_paint 13 = .ok (.putfield 36, 3) := by decide +kernel
theorem dX6_paint_16 : decode cX6_paint 16 = .ok (.aload_n 0, 1) := by decide +kernel
theorem dX6_paint_17 : decode cX6_paint 17 = .ok (.aload_n 0, 1) := by decide +kernel
theorem dX6_paint_18 : decode cX6_paint 18 = .ok (.iconst 1, 1) := by decide +kernel
theorem dX6_paint_19 : decode cX6_paint 19 = .ok (.aload_n 2, 1) := by decide +kernel
theorem dX6_paint_20 : decode cX6_paint 20 = .ok (.iconst 0, 1) := by decide +kernel
theorem dX6_paint_21 : decode cX6_paint 21 = .ok (.invokevirtual 32, 3) := by decide +kernel
theorem dX6_paint_24 : decode cX6_paint 24 = .ok (.putfield 39, 3) := by decide +kernel
theorem dX6_paint_27 : decode cX6_paint 27 = .ok (.aload_n 0, 1) := by decide +kernel
theorem dX6_paint_28 : decode cX6_paint 28 = .ok (.aload_n 0, 1) := by decide +kernel
theorem dX6_paint_29 : decode cX6_paint 29 = .ok (.iconst 2, 1) := by decide +kernel
theorem dX6_paint_30 : decode cX6_paint 30 = .ok (.aload_n 2, 1) := by decide +kernel
theorem dX6_paint_31 : decode cX6_paint 31 = .ok (.iconst 0, 1) := by decide +kernel
theorem dX6_paint_32 : decode cX6_paint 32 = .ok (.invokevirtual 32, 3) := by decide +kernel
theorem dX6_paint_35 : decode cX6_paint 35 = .ok (.putfield 42, 3) := by decide +kernel
theorem dX6_paint_38 : decode cX6_paint 38 = .ok (.return_, 1) := by decide +kernel
theorem dX6_become_0 : decode cX6_become 0 = .ok (.aload_n 0, 1) := by decide +kernel
theorem dX6_become_1 : decode cX6_become 1 = .ok (.aload_n 1, 1) := by decide +kernel
theorem dX6_become_2 : decode cX6_become 2 = .ok (.getfield 9, 3) := by decide +kernel
theorem dX6_become_5 : decode cX6_become 5 = .ok (.putfield 9, 3) := by decide +kernel
theorem dX6_become_8 : decode cX6_become 8 = .ok (.aload_n 0, 1) := by decide +kernel
theorem dX6_become_9 : decode cX6_become 9 = .ok (.aload_n 1, 1) := by decide +kernel
theorem dX6_become_10 : decode cX6_become 10 = .ok (.getfield 15, 3) := by decide +kernel
theorem dX6_become_13 : decode cX6_become 13 = .ok (.putfield 15, 3) := by decide +kernel
theorem dX6_become_16 : decode cX6_become 16 = .ok (.aload_n 0, 1) := by decide +kernel
theorem dX6_become_17 : decode cX6_become 17 = .ok (.aload_n 1, 1) := by decide +kernel
theorem dX6_become_18 : decode cX6_become 18 = .ok (.getfield 18, 3) := by decide +kernel
theorem dX6_become_21 : decode cX6_become 21 = .ok (.putfield 18, 3) := by decide +kernel
theorem dX6_become_24 : decode cX6_become 24 = .ok (.aload_n 0, 1) := by decide +kernel
theorem dX6_become_25 : decode cX6_become 25 = .ok (.aload_n 1, 1) := by decide +kernel
theorem dX6_become_26 : decode cX6_become 26 = .ok (.getfield 29, 3) := by decide +kernel
theorem dX6_become_29 : decode cX6_become 29 = .ok (.putfield 29, 3) := by decide +kernel
theorem dX6_become_32 : decode cX6_become 32 = .ok (.aload_n 0, 1) := by decide +kernel
theorem dX6_become_33 : decode cX6_become 33 = .ok (.aload_n 1, 1) := by decide +kernel
theorem dX6_become_34 : decode cX6_become 34 = .ok (.getfield 36, 3) := by decide +kernel
theorem dX6_become_37 : decode cX6_become 37 = .ok (.putfield 36, 3) := by decide +kernel
theorem dX6_become_40 : decode cX6_become 40 = .ok (.aload_n 0, 1) := by decide +kernel
theorem dX6_become_41 : decode cX6_become 41 = .ok (.aload_n 1, 1) := by decide +kernel
theorem dX6_become_42 : decode cX6_become 42 = .ok (.getfield 39, 3) := by decide +kernel
theorem dX6_become_45 : decode cX6_become 45 = .ok (.putfield 39, 3) := by decide +kernel
theorem dX6_become_48 : decode cX6_become 48 = .ok (.aload_n 0, 1) := by decide +kernel
theorem dX6_become_49 : decode cX6_become 49 = .ok (.aload_n 1, 1) := by decide +kernel
theorem dX6_become_50 : decode cX6_become 50 = .ok (.getfield 42, 3) := by decide +kernel
theorem dX6_become_53 : decode cX6_become 53 = .ok (.putfield 42, 3) := by decide +kernel
theorem dX6_become_56 : decode cX6_become 56 = .ok (.aload_n 0, 1) := by decide +kernel
theorem dX6_become_57 : decode cX6_become 57 = .ok (.aload_n 1, 1) := by decide +kernel
theorem dX6_become_58 : decode cX6_become 58 = .ok (.getfield 21, 3) := by decide +kernel
theorem dX6_become_61 : decode cX6_become 61 = .ok (.putfield 21, 3) := by decide +kernel
theorem dX6_become_64 : decode cX6_become 64 = .ok (.return_, 1) := by decide +kernel
theorem dX6_isOf_0 : decode cX6_isOf 0 = .ok (.aload_n 0, 1) := by decide +kernel
theorem dX6_isOf_1 : decode cX6_isOf 1 = .ok (.getfield 18, 3) := by decide +kernel
theorem dX6_isOf_4 : decode cX6_isOf 4 = .ok (.istore_n 2, 1) := by decide +kernel
theorem dX6_isOf_5 : decode cX6_isOf 5 = .ok (.iconst 0, 1) := by decide +kernel
theorem dX6_isOf_6 : decode cX6_isOf 6 = .ok (.istore_n 3, 1) := by decide +kernel
theorem dX6_isOf_7 : decode cX6_isOf 7 = .ok (.iload_n 3, 1) := by decide +kernel
theorem dX6_isOf_8 : decode cX6_isOf 8 = .ok (.iconst 5, 1) := by decide +kernel
theorem dX6_isOf_9 : decode cX6_isOf 9 = .ok (.if_icmp .ge 30, 3) := by decide +kernel
theorem dX6_isOf_12 : decode cX6_isOf 12 = .ok (.iload_n 2, 1) := by decide +kernel
theorem dX6_isOf_13 : decode cX6_isOf 13 = .ok (.iconst 5, 1) := by decide +kernel
theorem dX6_isOf_14 : decode cX6_isOf 14 = .ok (.invokestatic 45, 3) := by decide +kernel
theorem dX6_isOf_17 : decode cX6_isOf 17 = .ok (.ifCond .eq 22, 3) := by decide +kernel
theorem dX6_isOf_20 : decode cX6_isOf 20 = .ok (.iload_n 2, 1) := by decide +kernel
theorem dX6_isOf_21 : decode cX6_isOf 21 = .ok (.iload_n 1, 1) := by decide +kernel
theorem dX6_isOf_22 : decode cX6_isOf 22 = .ok (.if_icmp .ne 5, 3) := by decide +kernel
theorem dX6_isOf_25 : decode cX6_isOf 25 = .ok (.iconst 1, 1) := by decide +kernel
theorem dX6_isOf_26 : decode cX6_isOf 26 = .ok (.ireturn, 1) := by decide +kernel
theorem dX6_isOf_27 : decode cX6_isOf 27 = .ok (.getstatic 49, 3) := by decide +kernel
theorem dX6_isOf_30 : decode cX6_isOf 30 = .ok (.iload_n 2, 1) := by decide +kernel
theorem dX6_isOf_31 : decode cX6_isOf 31 = .ok (.iaload, 1) := by decide +kernel
theorem dX6_isOf_32 : decode cX6_isOf 32 = .ok (.istore_n 2, 1) := by decide +kernel
theorem dX6_isOf_33 : decode cX6_isOf 33 = .ok (.iinc 3 1, 3) := by decide +kernel
theorem dX6_isOf_36 : decode cX6_isOf 36 = .ok (.goto (-29), 3) := by decide +kernel
theorem dX6_isOf_39 : decode cX6_isOf 39 = .ok (.iconst 0, 1) := by decide +kernel
theorem dX6_isOf_40 : decode cX6_isOf 40 = .ok (.ireturn, 1) := by decide +kernel
theorem dX6_answer_0 : decode cX6_answer 0 = .ok (.aload_n 0, 1) := by decide +kernel
theorem dX6_answer_1 : decode cX6_answer 1 = .ok (.iload_n 1, 1) := by decide +kernel
theorem dX6_answer_2 : decode cX6_answer 2 = .ok (.aload_n 2, 1) := by decide +kernel
theorem dX6_answer_3 : decode cX6_answer 3 = .ok (.iconst 0, 1) := by decide +kernel
theorem dX6_answer_4 : decode cX6_answer 4 = .ok (.invokevirtual 32, 3) := by decide +kernel
theorem dX6_answer_7 : decode cX6_answer 7 = .ok (.ireturn, 1) := by decide +kernel
theorem dX6_begun_0 : decode cX6_begun 0 = .ok (.iload_n 1, 1) := by decide +kernel
theorem dX6_begun_1 : decode cX6_begun 1 = .ok (.iconst 5, 1) := by decide +kernel
theorem dX6_begun_2 : decode cX6_begun 2 = .ok (.imul, 1) := by decide +kernel
theorem dX6_begun_3 : decode cX6_begun 3 = .ok (.aload_n 0, 1) := by decide +kernel
theorem dX6_begun_4 : decode cX6_begun 4 = .ok (.getfield 18, 3) := by decide +kernel
theorem dX6_begun_7 : decode cX6_begun 7 = .ok (.iadd, 1) := by decide +kernel
theorem dX6_begun_8 : decode cX6_begun 8 = .ok (.istore 4, 2) := by decide +kernel
theorem dX6_begun_10 : decode cX6_begun 10 = .ok (.iload 4, 2) := by decide +kernel
theorem dX6_begun_12 : decode cX6_begun 12 = .ok (.getstatic 53, 3) := by decide +kernel
theorem dX6_begun_15 : decode cX6_begun 15 = .ok (.arraylength, 1) := by decide +kernel
theorem dX6_begun_16 : decode cX6_begun 16 = .ok (.invokestatic 45, 3) := by decide +kernel
theorem dX6_begun_19 : decode cX6_begun 19 = .ok (.ifCond .eq 18, 3) := by decide +kernel
theorem dX6_begun_22 : decode cX6_begun 22 = .ok (.aload_n 0, 1) := by decide +kernel
theorem dX6_begun_23 : decode cX6_begun 23 = .ok (.getstatic 53, 3) := by decide +kernel
theorem dX6_begun_26 : decode cX6_begun 26 = .ok (.iload 4, 2) := by decide +kernel
theorem dX6_begun_28 : decode cX6_begun 28 = .ok (.iaload, 1) := by decide +kernel
theorem dX6_begun_29 : decode cX6_begun 29 = .ok (.aload_n 2, 1) := by decide +kernel
theorem dX6_begun_30 : decode cX6_begun 30 = .ok (.iload_n 3, 1) := by decide +kernel
theorem dX6_begun_31 : decode cX6_begun 31 = .ok (.invokevirtual 56, 3) := by decide +kernel
theorem dX6_begun_34 : decode cX6_begun 34 = .ok (.goto 4, 3) := by decide +kernel
theorem dX6_begun_37 : decode cX6_begun 37 = .ok (.iconst 0, 1) := by decide +kernel
theorem dX6_begun_38 : decode cX6_begun 38 = .ok (.ireturn, 1) := by decide +kernel
theorem dX6_gives_0 : decode cX6_gives 0 = .ok (.iload_n 3, 1) := by decide +kernel
theorem dX6_gives_1 : decode cX6_gives 1 = .ok (.bipush 8, 2) := by decide +kernel
theorem dX6_gives_3 : decode cX6_gives 3 = .ok (.if_icmp .lt 5, 3) := by decide +kernel
theorem dX6_gives_6 : decode cX6_gives 6 = .ok (.iconst 0, 1) := by decide +kernel
theorem dX6_gives_7 : decode cX6_gives 7 = .ok (.ireturn, 1) := by decide +kernel
theorem dX6_gives_8 : decode cX6_gives 8 = .ok (.aload_n 2, 1) := by decide +kernel
theorem dX6_gives_9 : decode cX6_gives 9 = .ok (.iload_n 1, 1) := by decide +kernel
theorem dX6_gives_10 : decode cX6_gives 10 = .ok (.invokevirtual 59, 3) := by decide +kernel
theorem dX6_gives_13 : decode cX6_gives 13 = .ok (.iload_n 3, 1) := by decide +kernel
theorem dX6_gives_14 : decode cX6_gives 14 = .ok (.iconst 1, 1) := by decide +kernel
theorem dX6_gives_15 : decode cX6_gives 15 = .ok (.iadd, 1) := by decide +kernel
theorem dX6_gives_16 : decode cX6_gives 16 = .ok (.istore 4, 2) := by decide +kernel
theorem dX6_gives_18 : decode cX6_gives 18 = .ok (.iload_n 1, 1) := by decide +kernel
theorem dX6_gives_19 : decode cX6_gives 19 = .ok (.tableswitch 267 11 42 #[141, 143, 155, 267, 267, 267, 267, 267, 267, 267, 141, 177, 267, 267, 267, 267, 267, 267, 267, 199, 221, 267, 267, 267, 267, 267, 267, 267, 267, 233, 245, 257], 141) := by decide +kernel
theorem dX6_gives_160 : decode cX6_gives 160 = .ok (.iconst 1, 1) := by decide +kernel
theorem dX6_gives_161 : decode cX6_gives 161 = .ok (.ireturn, 1) := by decide +kernel
theorem dX6_gives_162 : decode cX6_gives 162 = .ok (.iconst 2, 1) := by decide +kernel
theorem dX6_gives_163 : decode cX6_gives 163 = .ok (.aload_n 0, 1) := by decide +kernel
theorem dX6_gives_164 : decode cX6_gives 164 = .ok (.bipush 11, 2) := by decide +kernel
theorem dX6_gives_166 : decode cX6_gives 166 = .ok (.aload_n 2, 1) := by decide +kernel
theorem dX6_gives_167 : decode cX6_gives 167 = .ok (.iload 4, 2) := by decide +kernel
theorem dX6_gives_169 : decode cX6_gives 169 = .ok (.invokevirtual 56, 3) := by decide +kernel
theorem dX6_gives_172 : decode cX6_gives 172 = .ok (.imul, 1) := by decide +kernel
theorem dX6_gives_173 : decode cX6_gives 173 = .ok (.ireturn, 1) := by decide +kernel
theorem dX6_gives_174 : decode cX6_gives 174 = .ok (.aload_n 0, 1) := by decide +kernel
theorem dX6_gives_175 : decode cX6_gives 175 = .ok (.getfield 29, 3) := by decide +kernel
theorem dX6_gives_178 : decode cX6_gives 178 = .ok (.iconst 1, 1) := by decide +kernel
theorem dX6_gives_179 : decode cX6_gives 179 = .ok (.if_icmp .ne 7, 3) := by decide +kernel
theorem dX6_gives_182 : decode cX6_gives 182 = .ok (.iconst 1, 1) := by decide +kernel
theorem dX6_gives_183 : decode cX6_gives 183 = .ok (.goto 12, 3) := by decide +kernel
theorem dX6_gives_186 : decode cX6_gives 186 = .ok (.aload_n 0, 1) := by decide +kernel
theorem dX6_gives_187 : decode cX6_gives 187 = .ok (.bipush 10, 2) := by decide +kernel
theorem dX6_gives_189 : decode cX6_gives 189 = .ok (.aload_n 2, 1) := by decide +kernel
theorem dX6_gives_190 : decode cX6_gives 190 = .ok (.iload 4, 2) := by decide +kernel
theorem dX6_gives_192 : decode cX6_gives 192 = .ok (.invokevirtual 56, 3) := by decide +kernel
theorem dX6_gives_195 : decode cX6_gives 195 = .ok (.ireturn, 1) := by decide +kernel
theorem dX6_gives_196 : decode cX6_gives 196 = .ok (.aload_n 0, 1) := by decide +kernel
theorem dX6_gives_197 : decode cX6_gives 197 = .ok (.getfield 29, 3) := by decide +kernel
theorem dX6_gives_200 : decode cX6_gives 200 = .ok (.iconst 2, 1) := by decide +kernel
theorem dX6_gives_201 : decode cX6_gives 201 = .ok (.if_icmp .ne 7, 3) := by decide +kernel
theorem dX6_gives_204 : decode cX6_gives 204 = .ok (.iconst 1, 1) := by decide +kernel
theorem dX6_gives_205 : decode cX6_gives 205 = .ok (.goto 12, 3) := by decide +kernel
theorem dX6_gives_208 : decode cX6_gives 208 = .ok (.aload_n 0, 1) := by decide +kernel
theorem dX6_gives_209 : decode cX6_gives 209 = .ok (.bipush 20, 2) := by decide +kernel
theorem dX6_gives_211 : decode cX6_gives 211 = .ok (.aload_n 2, 1) := by decide +kernel
theorem dX6_gives_212 : decode cX6_gives 212 = .ok (.iload 4, 2) := by decide +kernel
theorem dX6_gives_214 : decode cX6_gives 214 = .ok (.invokevirtual 56, 3) := by decide +kernel
theorem dX6_gives_217 : decode cX6_gives 217 = .ok (.ireturn, 1) := by decide +kernel
theorem dX6_gives_218 : decode cX6_gives 218 = .ok (.iconst 1, 1) := by decide +kernel
theorem dX6_gives_219 : decode cX6_gives 219 = .ok (.aload_n 0, 1) := by decide +kernel
theorem dX6_gives_220 : decode cX6_gives 220 = .ok (.iconst 0, 1) := by decide +kernel
theorem dX6_gives_221 : decode cX6_gives 221 = .ok (.aload_n 2, 1) := by decide +kernel
theorem dX6_gives_222 : decode cX6_gives 222 = .ok (.iload 4, 2) := by decide +kernel
theorem dX6_gives_224 : decode cX6_gives 224 = .ok (.invokevirtual 32, 3) := by decide +kernel
theorem dX6_gives_227 : decode cX6_gives 227 = .ok (.aload_n 0, 1) := by decide +kernel
theorem dX6_gives_228 : decode cX6_gives 228 = .ok (.iconst 1, 1) := by decide +kernel
theorem dX6_gives_229 : decode cX6_gives 229 = .ok (.aload_n 2, 1) := by decide +kernel
theorem dX6_gives_230 : decode cX6_gives 230 = .ok (.iload 4, 2) := by decide +kernel
theorem dX6_gives_232 : decode cX6_gives 232 = .ok (.invokevirtual 32, 3) := by decide +kernel
theorem dX6_gives_235 : decode cX6_gives 235 = .ok (.iadd, 1) := by decide +kernel
theorem dX6_gives_236 : decode cX6_gives 236 = .ok (.invokestatic 65, 3) := by decide +kernel
theorem dX6_gives_239 : decode cX6_gives 239 = .ok (.ireturn, 1) := by decide +kernel
theorem dX6_gives_240 : decode cX6_gives 240 = .ok (.iconst 1, 1) := by decide +kernel
theorem dX6_gives_241 : decode cX6_gives 241 = .ok (.aload_n 0, 1) := by decide +kernel
theorem dX6_gives_242 : decode cX6_gives 242 = .ok (.bipush 30, 2) := by decide +kernel
theorem dX6_gives_244 : decode cX6_gives 244 = .ok (.aload_n 2, 1) := by decide +kernel
theorem dX6_gives_245 : decode cX6_gives 245 = .ok (.iload 4, 2) := by decide +kernel
theorem dX6_gives_247 : decode cX6_gives 247 = .ok (.invokevirtual 56, 3) := by decide +kernel
theorem dX6_gives_250 : decode cX6_gives 250 = .ok (.iadd, 1) := by decide +kernel
theorem dX6_gives_251 : decode cX6_gives 251 = .ok (.ireturn, 1) := by decide +kernel
theorem dX6_gives_252 : decode cX6_gives 252 = .ok (.bipush 10, 2) := by decide +kernel
theorem dX6_gives_254 : decode cX6_gives 254 = .ok (.aload_n 0, 1) := by decide +kernel
theorem dX6_gives_255 : decode cX6_gives 255 = .ok (.iconst 2, 1) := by decide +kernel
theorem dX6_gives_256 : decode cX6_gives 256 = .ok (.aload_n 2, 1) := by decide +kernel
theorem dX6_gives_257 : decode cX6_gives 257 = .ok (.iload 4, 2) := by decide +kernel
theorem dX6_gives_259 : decode cX6_gives 259 = .ok (.invokevirtual 32, 3) := by decide +kernel
theorem dX6_gives_262 : decode cX6_gives 262 = .ok (.imul, 1) := by decide +kernel
theorem dX6_gives_263 : decode cX6_gives 263 = .ok (.ireturn, 1) := by decide +kernel
theorem dX6_gives_264 : decode cX6_gives 264 = .ok (.aload_n 0, 1) := by decide +kernel
theorem dX6_gives_265 : decode cX6_gives 265 = .ok (.bipush 40, 2) := by decide +kernel
theorem dX6_gives_267 : decode cX6_gives 267 = .ok (.aload_n 2, 1) := by decide +kernel
theorem dX6_gives_268 : decode cX6_gives 268 = .ok (.iload 4, 2) := by decide +kernel
theorem dX6_gives_270 : decode cX6_gives 270 = .ok (.invokevirtual 56, 3) := by decide +kernel
theorem dX6_gives_273 : decode cX6_gives 273 = .ok (.iconst 5, 1) := by decide +kernel
theorem dX6_gives_274 : decode cX6_gives 274 = .ok (.isub, 1) := by decide +kernel
theorem dX6_gives_275 : decode cX6_gives 275 = .ok (.ireturn, 1) := by decide +kernel
theorem dX6_gives_276 : decode cX6_gives 276 = .ok (.aload_n 0, 1) := by decide +kernel
theorem dX6_gives_277 : decode cX6_gives 277 = .ok (.bipush 30, 2) := by decide +kernel
theorem dX6_gives_279 : decode cX6_gives 279 = .ok (.aload_n 2, 1) := by decide +kernel
theorem dX6_gives_280 : decode cX6_gives 280 = .ok (.iload 4, 2) := by decide +kernel
theorem dX6_gives_282 : decode cX6_gives 282 = .ok (.invokevirtual 56, 3) := by decide +kernel
theorem dX6_gives_285 : decode cX6_gives 285 = .ok (.ireturn, 1) := by decide +kernel
theorem dX6_gives_286 : decode cX6_gives 286 = .ok (.iconst 0, 1) := by decide +kernel
theorem dX6_gives_287 : decode cX6_gives 287 = .ok (.ireturn, 1) := by decide +kernel
theorem dX7_init_0 : decode cX7_init 0 = .ok (.aload_n 0, 1) := by decide +kernel
theorem dX7_init_1 : decode cX7_init 1 = .ok (.invokespecial 3, 3) := by decide +kernel
theorem dX7_init_4 : decode cX7_init 4 = .ok (.aload_n 0, 1) := by decide +kernel
theorem dX7_init_5 : decode cX7_init 5 = .ok (.bipush 40, 2) := by decide +kernel
theorem dX7_init_7 : decode cX7_init 7 = .ok (.newarray .int, 2) := by decide +kernel
theorem dX7_init_9 : decode cX7_init 9 = .ok (.putfield 9, 3) := by decide +kernel
theorem dX7_init_12 : decode cX7_init 12 = .ok (.aload_n 0, 1) := by decide +kernel
theorem dX7_init_13 : decode cX7_init 13 = .ok (.bipush 40, 2) := by decide +kernel
theorem dX7_init_15 : decode cX7_init 15 = .ok (.newarray .int, 2) := by decide +kernel
theorem dX7_init_17 : decode cX7_init 17 = .ok (.putfield 15, 3) := by decide +kernel
theorem dX7_init_20 : decode cX7_init 20 = .ok (.aload_n 0, 1) := by decide +kernel
theorem dX7_init_21 : decode cX7_init 21 = .ok (.bipush 40, 2) := by decide +kernel
theorem dX7_init_23 : decode cX7_init 23 = .ok (.newarray .int, 2) := by decide +kernel
theorem dX7_init_25 : decode cX7_init 25 = .ok (.putfield 18, 3) := by decide +kernel
theorem dX7_init_28 : decode cX7_init 28 = .ok (.aload_n 0, 1) := by decide +kernel
theorem dX7_init_29 : decode cX7_init 29 = .ok (.bipush 40, 2) := by decide +kernel
theorem dX7_init_31 : decode cX7_init 31 = .ok (.newarray .int, 2) := by decide +kernel
theorem dX7_init_33 : decode cX7_init 33 = .ok (.putfield 21, 3) := by decide +kernel
theorem dX7_init_36 : decode cX7_init 36 = .ok (.aload_n 0, 1) := by decide +kernel
theorem dX7_init_37 : decode cX7_init 37 = .ok (.bipush 40, 2) := by decide +kernel
theorem dX7_init_39 : decode cX7_init 39 = .ok (.newarray .int, 2) := by decide +kernel
theorem dX7_init_41 : decode cX7_init 41 = .ok (.putfield 24, 3) := by decide +kernel
theorem dX7_init_44 : decode cX7_init 44 = .ok (.aload_n 0, 1) := by decide +kernel
theorem dX7_init_45 : decode cX7_init 45 = .ok (.bipush 40, 2) := by decide +kernel
theorem dX7_init_47 : decode cX7_init 47 = .ok (.newarray .int, 2) := by decide +kernel
theorem dX7_init_49 : decode cX7_init 49 = .ok (.putfield 27, 3) := by decide +kernel
theorem dX7_init_52 : decode cX7_init 52 = .ok (.return_, 1) := by decide +kernel
theorem dX7_gather_0 : decode cX7_gather 0 = .ok (.aload_n 0, 1) := by decide +kernel
theorem dX7_gather_1 : decode cX7_gather 1 = .ok (.iconst 0, 1) := by decide +kernel
theorem dX7_gather_2 : decode cX7_gather 2 = .ok (.putfield 30, 3) := by decide +kernel
theorem dX7_gather_5 : decode cX7_gather 5 = .ok (.iconst 0, 1) := by decide +kernel
theorem dX7_gather_6 : decode cX7_gather 6 = .ok (.istore_n 3, 1) := by decide +kernel
theorem dX7_gather_7 : decode cX7_gather 7 = .ok (.iload_n 3, 1) := by decide +kernel
theorem dX7_gather_8 : decode cX7_gather 8 = .ok (.iload_n 2, 1) := by decide +kernel
theorem dX7_gather_9 : decode cX7_gather 9 = .ok (.if_icmp .ge 32, 3) := by decide +kernel
theorem dX7_gather_12 : decode cX7_gather 12 = .ok (.iload_n 3, 1) := by decide +kernel
theorem dX7_gather_13 : decode cX7_gather 13 = .ok (.bipush 40, 2) := by decide +kernel
theorem dX7_gather_15 : decode cX7_gather 15 = .ok (.if_icmp .ge 26, 3) := by decide +kernel
theorem dX7_gather_18 : decode cX7_gather 18 = .ok (.aload_n 1, 1) := by decide +kernel
theorem dX7_gather_19 : decode cX7_gather 19 = .ok (.iload_n 3, 1) := by decide +kernel
theorem dX7_gather_20 : decode cX7_gather 20 = .ok (.aaload, 1) := by decide +kernel
theorem dX7_gather_21 : decode cX7_gather 21 = .ok (.getfield 34, 3) := by decide +kernel
theorem dX7_gather_24 : decode cX7_gather 24 = .ok (.ifCond .eq 11, 3) := by decide +kernel
theorem dX7_gather_27 : decode cX7_gather 27 = .ok (.aload_n 0, 1) := by decide +kernel
theorem dX7_gather_28 : decode cX7_gather 28 = .ok (.iload_n 3, 1) := by decide +kernel
theorem dX7_gather_29 : decode cX7_gather 29 = .ok (.aload_n 1, 1) := by decide +kernel
theorem dX7_gather_30 : decode cX7_gather 30 = .ok (.iload_n 3, 1) := by decide +kernel
theorem dX7_gather_31 : decode cX7_gather 31 = .ok (.aaload, 1) := by decide +kernel
theorem dX7_gather_32 : decode cX7_gather 32 = .ok (.invokevirtual 40, 3) := by decide +kernel
theorem dX7_gather_35 : decode cX7_gather 35 = .ok (.iinc 3 1, 3) := by decide +kernel
theorem dX7_gather_38 : decode cX7_gather 38 = .ok (.goto (-31), 3) := by decide +kernel
theorem dX7_gather_41 : decode cX7_gather 41 = .ok (.aload_n 0, 1) := by decide +kernel
theorem dX7_gather_42 : decode cX7_gather 42 = .ok (.iconst 1, 1) := by decide +kernel
theorem dX7_gather_43 : decode cX7_gather 43 = .ok (.putfield 44, 3) := by decide +kernel
theorem dX7_gather_46 : decode cX7_gather 46 = .ok (.return_, 1) := by decide +kernel
theorem dX7_add_0 : decode cX7_add 0 = .ok (.aload_n 0, 1) := by decide +kernel
theorem dX7_add_1 : decode cX7_add 1 = .ok (.getfield 9, 3) := by decide +kernel
theorem dX7_add_4 : decode cX7_add 4 = .ok (.aload_n 0, 1) := by decide +kernel
theorem dX7_add_5 : decode cX7_add 5 = .ok (.getfield 30, 3) := by decide +kernel
theorem dX7_add_8 : decode cX7_add 8 = .ok (.iload_n 1, 1) := by decide +kernel
theorem dX7_add_9 : decode cX7_add 9 = .ok (.iastore, 1) := by decide +kernel
theorem dX7_add_10 : decode cX7_add 10 = .ok (.aload_n 0, 1) := by decide +kernel
theorem dX7_add_11 : decode cX7_add 11 = .ok (.getfield 15, 3) := by decide +kernel
theorem dX7_add_14 : decode cX7_add 14 = .ok (.aload_n 0, 1) := by decide +kernel
theorem dX7_add_15 : decode cX7_add 15 = .ok (.getfield 30, 3) := by decide +kernel
theorem dX7_add_18 : decode cX7_add 18 = .ok (.aload_n 2, 1) := by decide +kernel
theorem dX7_add_19 : decode cX7_add 19 = .ok (.getfield 47, 3) := by decide +kernel
theorem dX7_add_22 : decode cX7_add 22 = .ok (.iastore, 1) := by decide +kernel
theorem dX7_add_23 : decode cX7_add 23 = .ok (.aload_n 0, 1) := by decide +kernel
theorem dX7_add_24 : decode cX7_add 24 = .ok (.getfield 18, 3) := by decide +kernel
theorem dX7_add_27 : decode cX7_add 27 = .ok (.aload_n 0, 1) := by decide +kernel
theorem dX7_add_28 : decode cX7_add 28 = .ok (.getfield 30, 3) := by decide +kernel
theorem dX7_add_31 : decode cX7_add 31 = .ok (.aload_n 2, 1) := by decide +kernel
theorem dX7_add_32 : decode cX7_add 32 = .ok (.getfield 49, 3) := by decide +kernel
theorem dX7_add_35 : decode cX7_add 35 = .ok (.iastore, 1) := by decide +kernel
theorem dX7_add_36 : decode cX7_add 36 = .ok (.aload_n 0, 1) := by decide +kernel
theorem dX7_add_37 : decode cX7_add 37 = .ok (.getfield 21, 3) := by decide +kernel
theorem dX7_add_40 : decode cX7_add 40 = .ok (.aload_n 0, 1) := by decide +kernel
theorem dX7_add_41 : decode cX7_add 41 = .ok (.getfield 30, 3) := by decide +kernel
theorem dX7_add_44 : decode cX7_add 44 = .ok (.aload_n 2, 1) := by decide +kernel
theorem dX7_add_45 : decode cX7_add 45 = .ok (.getfield 51, 3) := by decide +kernel
theorem dX7_add_48 : decode cX7_add 48 = .ok (.iastore, 1) := by decide +kernel
theorem dX7_add_49 : decode cX7_add 49 = .ok (.aload_n 0, 1) := by decide +kernel
theorem dX7_add_50 : decode cX7_add 50 = .ok (.getfield 24, 3) := by decide +kernel
theorem dX7_add_53 : decode cX7_add 53 = .ok (.aload_n 0, 1) := by decide +kernel
theorem dX7_add_54 : decode cX7_add 54 = .ok (.getfield 30, 3) := by decide +kernel
theorem dX7_add_57 : decode cX7_add 57 = .ok (.aload_n 2, 1) := by decide +kernel
theorem dX7_add_58 : decode cX7_add 58 = .ok (.getfield 53, 3) := by decide +kernel
theorem dX7_add_61 : decode cX7_add 61 = .ok (.iastore, 1) := by decide +kernel
theorem dX7_add_62 : decode cX7_add 62 = .ok (.aload_n 0, 1) := by decide +kernel
theorem dX7_add_63 : decode cX7_add 63 = .ok (.getfield 27, 3) := by decide +kernel
theorem dX7_add_66 : decode cX7_add 66 = .ok (.aload_n 0, 1) := by decide +kernel
theorem dX7_add_67 : decode cX7_add 67 = .ok (.getfield 30, 3) := by decide +kernel
theorem dX7_add_70 : decode cX7_add 70 = .ok (.aload_n 2, 1) := by decide +kernel
theorem dX7_add_71 : decode cX7_add 71 = .ok (.getfield 55, 3) := by decide +kernel
theorem dX7_add_74 : decode cX7_add 74 = .ok (.iastore, 1) := by decide +kernel
theorem dX7_add_75 : decode cX7_add 75 = .ok (.aload_n 0, 1) := by decide +kernel
theorem dX7_add_76 : decode cX7_add 76 = .ok (.dup, 1) := by decide +kernel
theorem dX7_add_77 : decode cX7_add 77 = .ok (.getfield 30, 3) := by decide +kernel
theorem dX7_add_80 : decode cX7_add 80 = .ok (.iconst 1, 1) := by decide +kernel
theorem dX7_add_81 : decode cX7_add 81 = .ok (.iadd, 1) := by decide +kernel
theorem dX7_add_82 : decode cX7_add 82 = .ok (.putfield 30, 3) := by decide +kernel
theorem dX7_add_85 : decode cX7_add 85 = .ok (.return_, 1) := by decide +kernel
theorem dX7_placeOf_0 : decode cX7_placeOf 0 = .ok (.iconst 0, 1) := by decide +kernel
theorem dX7_placeOf_1 : decode cX7_placeOf 1 = .ok (.istore_n 2, 1) := by decide +kernel
theorem dX7_placeOf_2 : decode cX7_placeOf 2 = .ok (.iload_n 2, 1) := by decide +kernel
theorem dX7_placeOf_3 : decode cX7_placeOf 3 = .ok (.aload_n 0, 1) := by decide +kernel
theorem dX7_placeOf_4 : decode cX7_placeOf 4 = .ok (.getfield 30, 3) := by decide +kernel
theorem dX7_placeOf_7 : decode cX7_placeOf 7 = .ok (.if_icmp .ge 21, 3) := by decide +kernel
theorem dX7_placeOf_10 : decode cX7_placeOf 10 = .ok (.aload_n 0, 1) := by decide +kernel
theorem dX7_placeOf_11 : decode cX7_placeOf 11 = .ok (.getfield 9, 3) := by decide +kernel
theorem dX7_placeOf_14 : decode cX7_placeOf 14 = .ok (.iload_n 2, 1) := by decide +kernel
theorem dX7_placeOf_15 : decode cX7_placeOf 15 = .ok (.iaload, 1) := by decide +kernel
theorem dX7_placeOf_16 : decode cX7_placeOf 16 = .ok (.iload_n 1, 1) := by decide +kernel
theorem dX7_placeOf_17 : decode cX7_placeOf 17 = .ok (.if_icmp .ne 5, 3) := by decide +kernel
theorem dX7_placeOf_20 : decode cX7_placeOf 20 = .ok (.iload_n 2, 1) := by decide +kernel
theorem dX7_placeOf_21 : decode cX7_placeOf 21 = .ok (.ireturn, 1) := by decide +kernel
theorem dX7_placeOf_22 : decode cX7_placeOf 22 = .ok (.iinc 2 1, 3) := by decide +kernel
theorem dX7_placeOf_25 : decode cX7_placeOf 25 = .ok (.goto (-23), 3) := by decide +kernel
theorem dX7_placeOf_28 : decode cX7_placeOf 28 = .ok (.iconst (-1), 1) := by decide +kernel
theorem dX7_placeOf_29 : decode cX7_placeOf 29 = .ok (.ireturn, 1) := by decide +kernel
theorem dX7_isTogether_0 : decode cX7_isTogether 0 = .ok (.aload_n 0, 1) := by decide +kernel
theorem dX7_isTogether_1 : decode cX7_isTogether 1 = .ok (.getfield 15, 3) := by decide +kernel
theorem dX7_isTogether_4 : decode cX7_isTogether 4 = .ok (.iload_n 1, 1) := by decide +kernel
theorem dX7_isTogether_5 : decode cX7_isTogether 5 = .ok (.iaload, 1) := by decide +kernel
theorem dX7_isTogether_6 : decode cX7_isTogether 6 = .ok (.aload_n 0, 1) := by decide +kernel
theorem dX7_isTogether_7 : decode cX7_isTogether 7 = .ok (.getfield 15, 3) := by decide +kernel
theorem dX7_isTogether_10 : decode cX7_isTogether 10 = .ok (.iload_n 2, 1) := by decide +kernel
theorem dX7_isTogether_11 : decode cX7_isTogether 11 = .ok (.iaload, 1) := by decide +kernel
theorem dX7_isTogether_12 : decode cX7_isTogether 12 = .ok (.if_icmp .ne 22, 3) := by decide +kernel
theorem dX7_isTogether_15 : decode cX7_isTogether 15 = .ok (.aload_n 0, 1) := by decide +kernel
theorem dX7_isTogether_16 : decode cX7_isTogether 16 = .ok (.getfield 18, 3) := by decide +kernel
theorem dX7_isTogether_19 : decode cX7_isTogether 19 = .ok (.iload_n 1, 1) := by decide +kernel
theorem dX7_isTogether_20 : decode cX7_isTogether 20 = .ok (.iaload, 1) := by decide +kernel
theorem dX7_isTogether_21 : decode cX7_isTogether 21 = .ok (.aload_n 0, 1) := by decide +kernel
theorem dX7_isTogether_22 : decode cX7_isTogether 22 = .ok (.getfield 18, 3) := by decide +kernel
theorem dX7_isTogether_25 : decode cX7_isTogether 25 = .ok (.iload_n 2, 1) := by decide +kernel
theorem dX7_isTogether_26 : decode cX7_isTogether 26 = .ok (.iaload, 1) := by decide +kernel
theorem dX7_isTogether_27 : decode cX7_isTogether 27 = .ok (.if_icmp .ne 7, 3) := by decide +kernel
theorem dX7_isTogether_30 : decode cX7_isTogether 30 = .ok (.iconst 1, 1) := by decide +kernel
theorem dX7_isTogether_31 : decode cX7_isTogether 31 = .ok (.goto 4, 3) := by decide +kernel
theorem dX7_isTogether_34 : decode cX7_isTogether 34 = .ok (.iconst 0, 1) := by decide +kernel
theorem dX7_isTogether_35 : decode cX7_isTogether 35 = .ok (.ireturn, 1) := by decide +kernel
theorem dX7_row_0 : decode cX7_row 0 = .ok (.iload_n 1, 1) := by decide +kernel
theorem dX7_row_1 : decode cX7_row 1 = .ok (.ifCond .ne 8, 3) := by decide +kernel
theorem dX7_row_4 : decode cX7_row 4 = .ok (.aload_n 0, 1) := by decide +kernel
theorem dX7_row_5 : decode cX7_row 5 = .ok (.getfield 21, 3) := by decide +kernel
theorem dX7_row_8 : decode cX7_row 8 = .ok (.areturn, 1) := by decide +kernel
theorem dX7_row_9 : decode cX7_row 9 = .ok (.iload_n 1, 1) := by decide +kernel
theorem dX7_row_10 : decode cX7_row 10 = .ok (.iconst 1, 1) := by decide +kernel
theorem dX7_row_11 : decode cX7_row 11 = .ok (.if_icmp .ne 10, 3) := by decide +kernel
theorem dX7_row_14 : decode cX7_row 14 = .ok (.aload_n 0, 1) := by decide +kernel
theorem dX7_row_15 : decode cX7_row 15 = .ok (.getfield 24, 3) := by decide +kernel
theorem dX7_row_18 : decode cX7_row 18 = .ok (.goto 7, 3) := by decide +kernel
theorem dX7_row_21 : decode cX7_row 21 = .ok (.aload_n 0, 1) := by decide +kernel
theorem dX7_row_22 : decode cX7_row 22 = .ok (.getfield 27, 3) := by decide +kernel
theorem dX7_row_25 : decode cX7_row 25 = .ok (.areturn, 1) := by decide +kernel
theorem dX7_total_0 : decode cX7_total 0 = .ok (.aload_n 0, 1) := by decide +kernel
theorem dX7_total_1 : decode cX7_total 1 = .ok (.iload_n 1, 1) := by decide +kernel
theorem dX7_total_2 : decode cX7_total 2 = .ok (.invokevirtual 57, 3) := by decide +kernel
theorem dX7_total_5 : decode cX7_total 5 = .ok (.astore_n 2, 1) := by decide +kernel
theorem dX7_total_6 : decode cX7_total 6 = .ok (.iconst 0, 1) := by decide +kernel
theorem dX7_total_7 : decode cX7_total 7 = .ok (.istore_n 3, 1) := by decide +kernel
theorem dX7_total_8 : decode cX7_total 8 = .ok (.iconst 0, 1) := by decide +kernel
theorem dX7_total_9 : decode cX7_total 9 = .ok (.istore 4, 2) := by decide +kernel
theorem dX7_total_11 : decode cX7_total 11 = .ok (.iload 4, 2) := by decide +kernel
theorem dX7_total_13 : decode cX7_total 13 = .ok (.aload_n 0, 1) := by decide +kernel
theorem dX7_total_14 : decode cX7_total 14 = .ok (.getfield 30, 3) := by decide +kernel
theorem dX7_total_17 : decode cX7_total 17 = .ok (.if_icmp .ge 16, 3) := by decide +kernel
theorem dX7_total_20 : decode cX7_total 20 = .ok (.iload_n 3, 1) := by decide +kernel
theorem dX7_total_21 : decode cX7_total 21 = .ok (.aload_n 2, 1) := by decide +kernel
theorem dX7_total_22 : decode cX7_total 22 = .ok (.iload 4, 2) := by decide +kernel
theorem dX7_total_24 : decode cX7_total 24 = .ok (.iaload, 1) := by decide +kernel
theorem dX7_total_25 : decode cX7_total 25 = .ok (.iadd, 1) := by decide +kernel
theorem dX7_total_26 : decode cX7_total 26 = .ok (.istore_n 3, 1) := by decide +kernel
theorem dX7_total_27 : decode cX7_total 27 = .ok (.iinc 4 1, 3) := by decide +kernel
theorem dX7_total_30 : decode cX7_total 30 = .ok (.goto (-19), 3) := by decide +kernel
theorem dX7_total_33 : decode cX7_total 33 = .ok (.iload_n 3, 1) := by decide +kernel
theorem dX7_total_34 : decode cX7_total 34 = .ok (.ireturn, 1) := by decide +kernel
theorem dX7_sumAt_0 : decode cX7_sumAt 0 = .ok (.aload_n 0, 1) := by decide +kernel
theorem dX7_sumAt_1 : decode cX7_sumAt 1 = .ok (.iload_n 2, 1) := by decide +kernel
theorem dX7_sumAt_2 : decode cX7_sumAt 2 = .ok (.invokevirtual 57, 3) := by decide +kernel
theorem dX7_sumAt_5 : decode cX7_sumAt 5 = .ok (.astore 4, 2) := by decide +kernel
theorem dX7_sumAt_7 : decode cX7_sumAt 7 = .ok (.iconst 0, 1) := by decide +kernel
theorem dX7_sumAt_8 : decode cX7_sumAt 8 = .ok (.istore 5, 2) := by decide +kernel
theorem dX7_sumAt_10 : decode cX7_sumAt 10 = .ok (.iconst 0, 1) := by decide +kernel
theorem dX7_sumAt_11 : decode cX7_sumAt 11 = .ok (.istore 6, 2) := by decide +kernel
theorem dX7_sumAt_13 : decode cX7_sumAt 13 = .ok (.iload 6, 2) := by decide +kernel
theorem dX7_sumAt_15 : decode cX7_sumAt 15 = .ok (.aload_n 0, 1) := by decide +kernel
theorem dX7_sumAt_16 : decode cX7_sumAt 16 = .ok (.getfield 30, 3) := by decide +kernel
theorem dX7_sumAt_19 : decode cX7_sumAt 19 = .ok (.if_icmp .ge 41, 3) := by decide +kernel
theorem dX7_sumAt_22 : decode cX7_sumAt 22 = .ok (.aload_n 1, 1) := by decide +kernel
theorem dX7_sumAt_23 : decode cX7_sumAt 23 = .ok (.aload_n 0, 1) := by decide +kernel
theorem dX7_sumAt_24 : decode cX7_sumAt 24 = .ok (.getfield 15, 3) := by decide +kernel
theorem dX7_sumAt_27 : decode cX7_sumAt 27 = .ok (.iload 6, 2) := by decide +kernel
theorem dX7_sumAt_29 : decode cX7_sumAt 29 = .ok (.iaload, 1) := by decide +kernel
theorem dX7_sumAt_30 : decode cX7_sumAt 30 = .ok (.aload_n 0, 1) := by decide +kernel
theorem dX7_sumAt_31 : decode cX7_sumAt 31 = .ok (.getfield 18, 3) := by decide +kernel
theorem dX7_sumAt_34 : decode cX7_sumAt 34 = .ok (.iload 6, 2) := by decide +kernel
theorem dX7_sumAt_36 : decode cX7_sumAt 36 = .ok (.iaload, 1) := by decide +kernel
theorem dX7_sumAt_37 : decode cX7_sumAt 37 = .ok (.invokevirtual 61, 3) := by decide +kernel
theorem dX7_sumAt_40 : decode cX7_sumAt 40 = .ok (.iload_n 3, 1) := by decide +kernel
theorem dX7_sumAt_41 : decode cX7_sumAt 41 = .ok (.if_icmp .ne 13, 3) := by decide +kernel
theorem dX7_sumAt_44 : decode cX7_sumAt 44 = .ok (.iload 5, 2) := by decide +kernel
theorem dX7_sumAt_46 : decode cX7_sumAt 46 = .ok (.aload 4, 2) := by decide +kernel
theorem dX7_sumAt_48 : decode cX7_sumAt 48 = .ok (.iload 6, 2) := by decide +kernel
theorem dX7_sumAt_50 : decode cX7_sumAt 50 = .ok (.iaload, 1) := by decide +kernel
theorem dX7_sumAt_51 : decode cX7_sumAt 51 = .ok (.iadd, 1) := by decide +kernel
theorem dX7_sumAt_52 : decode cX7_sumAt 52 = .ok (.istore 5, 2) := by decide +kernel
theorem dX7_sumAt_54 : decode cX7_sumAt 54 = .ok (.iinc 6 1, 3) := by decide +kernel
theorem dX7_sumAt_57 : decode cX7_sumAt 57 = .ok (.goto (-44), 3) := by decide +kernel
theorem dX7_sumAt_60 : decode cX7_sumAt 60 = .ok (.iload 5, 2) := by decide +kernel
theorem dX7_sumAt_62 : decode cX7_sumAt 62 = .ok (.ireturn, 1) := by decide +kernel
theorem dX7_isHalvedBy_0 : decode cX7_isHalvedBy 0 = .ok (.aload_n 0, 1) := by decide +kernel
theorem dX7_isHalvedBy_1 : decode cX7_isHalvedBy 1 = .ok (.iload_n 2, 1) := by decide +kernel
theorem dX7_isHalvedBy_2 : decode cX7_isHalvedBy 2 = .ok (.invokevirtual 57, 3) := by decide +kernel
theorem dX7_isHalvedBy_5 : decode cX7_isHalvedBy 5 = .ok (.astore_n 3, 1) := by decide +kernel
theorem dX7_isHalvedBy_6 : decode cX7_isHalvedBy 6 = .ok (.iconst 0, 1) := by decide +kernel
theorem dX7_isHalvedBy_7 : decode cX7_isHalvedBy 7 = .ok (.istore 4, 2) := by decide +kernel
theorem dX7_isHalvedBy_9 : decode cX7_isHalvedBy 9 = .ok (.iconst 0, 1) := by decide +kernel
theorem dX7_isHalvedBy_10 : decode cX7_isHalvedBy 10 = .ok (.istore 5, 2) := by decide +kernel
theorem dX7_isHalvedBy_12 : decode cX7_isHalvedBy 12 = .ok (.iconst 0, 1) := by decide +kernel
theorem dX7_isHalvedBy_13 : decode cX7_isHalvedBy 13 = .ok (.istore 6, 2) := by decide +kernel
theorem dX7_isHalvedBy_15 : decode cX7_isHalvedBy 15 = .ok (.iconst 0, 1) := by decide +kernel
theorem dX7_isHalvedBy_16 : decode cX7_isHalvedBy 16 = .ok (.istore 7, 2) := by decide +kernel
theorem dX7_isHalvedBy_18 : decode cX7_isHalvedBy 18 = .ok (.iload 7, 2) := by decide +kernel
theorem dX7_isHalvedBy_20 : decode cX7_isHalvedBy 20 = .ok (.aload_n 0, 1) := by decide +kernel
theorem dX7_isHalvedBy_21 : decode cX7_isHalvedBy 21 = .ok (.getfield 30, 3) := by decide +kernel
theorem dX7_isHalvedBy_24 : decode cX7_isHalvedBy 24 = .ok (.if_icmp .ge 75, 3) := by decide +kernel
theorem dX7_isHalvedBy_27 : decode cX7_isHalvedBy 27 = .ok (.aload_n 1, 1) := by decide +kernel
theorem dX7_isHalvedBy_28 : decode cX7_isHalvedBy 28 = .ok (.aload_n 0, 1) := by decide +kernel
theorem dX7_isHalvedBy_29 : decode cX7_isHalvedBy 29 = .ok (.getfield 15, 3) := by decide +kernel
theorem dX7_isHalvedBy_32 : decode cX7_isHalvedBy 32 = .ok (.iload 7, 2) := by decide +kernel
theorem dX7_isHalvedBy_34 : decode cX7_isHalvedBy 34 = .ok (.iaload, 1) := by decide +kernel
theorem dX7_isHalvedBy_35 : decode cX7_isHalvedBy 35 = .ok (.aload_n 0, 1) := by decide +kernel
theorem dX7_isHalvedBy_36 : decode cX7_isHalvedBy 36 = .ok (.getfield 18, 3) := by decide +kernel
theorem dX7_isHalvedBy_39 : decode cX7_isHalvedBy 39 = .ok (.iload 7, 2) := by decide +kernel
theorem dX7_isHalvedBy_41 : decode cX7_isHalvedBy 41 = .ok (.iaload, 1) := by decide +kernel
theorem dX7_isHalvedBy_42 : decode cX7_isHalvedBy 42 = .ok (.invokevirtual 61, 3) := by decide +kernel
theorem dX7_isHalvedBy_45 : decode cX7_isHalvedBy 45 = .ok (.istore 8, 2) := by decide +kernel
theorem dX7_isHalvedBy_47 : decode cX7_isHalvedBy 47 = .ok (.iload 4, 2) := by decide +kernel
theorem dX7_isHalvedBy_49 : decode cX7_isHalvedBy 49 = .ok (.aload_n 3, 1) := by decide +kernel
theorem dX7_isHalvedBy_50 : decode cX7_isHalvedBy 50 = .ok (.iload 7, 2) := by decide +kernel
theorem dX7_isHalvedBy_52 : decode cX7_isHalvedBy 52 = .ok (.iaload, 1) := by decide +kernel
theorem dX7_isHalvedBy_53 : decode cX7_isHalvedBy 53 = .ok (.iadd, 1) := by decide +kernel
theorem dX7_isHalvedBy_54 : decode cX7_isHalvedBy 54 = .ok (.istore 4, 2) := by decide +kernel
theorem dX7_isHalvedBy_56 : decode cX7_isHalvedBy 56 = .ok (.iload 5, 2) := by decide +kernel
theorem dX7_isHalvedBy_58 : decode cX7_isHalvedBy 58 = .ok (.iload 8, 2) := by decide +kernel
theorem dX7_isHalvedBy_60 : decode cX7_isHalvedBy 60 = .ok (.ifCond .ne 10, 3) := by decide +kernel
theorem dX7_isHalvedBy_63 : decode cX7_isHalvedBy 63 = .ok (.aload_n 3, 1) := by decide +kernel
theorem dX7_isHalvedBy_64 : decode cX7_isHalvedBy 64 = .ok (.iload 7, 2) := by decide +kernel
theorem dX7_isHalvedBy_66 : decode cX7_isHalvedBy 66 = .ok (.iaload, 1) := by decide +kernel
theorem dX7_isHalvedBy_67 : decode cX7_isHalvedBy 67 = .ok (.goto 4, 3) := by decide +kernel
theorem dX7_isHalvedBy_70 : decode cX7_isHalvedBy 70 = .ok (.iconst 0, 1) := by decide +kernel
theorem dX7_isHalvedBy_71 : decode cX7_isHalvedBy 71 = .ok (.iadd, 1) := by decide +kernel
theorem dX7_isHalvedBy_72 : decode cX7_isHalvedBy 72 = .ok (.istore 5, 2) := by decide +kernel
theorem dX7_isHalvedBy_74 : decode cX7_isHalvedBy 74 = .ok (.iload 6, 2) := by decide +kernel
theorem dX7_isHalvedBy_76 : decode cX7_isHalvedBy 76 = .ok (.iload 8, 2) := by decide +kernel
theorem dX7_isHalvedBy_78 : decode cX7_isHalvedBy 78 = .ok (.iconst 2, 1) := by decide +kernel
theorem dX7_isHalvedBy_79 : decode cX7_isHalvedBy 79 = .ok (.if_icmp .ne 10, 3) := by decide +kernel
theorem dX7_isHalvedBy_82 : decode cX7_isHalvedBy 82 = .ok (.aload_n 3, 1) := by decide +kernel
theorem dX7_isHalvedBy_83 : decode cX7_isHalvedBy 83 = .ok (.iload 7, 2) := by decide +kernel
theorem dX7_isHalvedBy_85 : decode cX7_isHalvedBy 85 = .ok (.iaload, 1) := by decide +kernel
theorem dX7_isHalvedBy_86 : decode cX7_isHalvedBy 86 = .ok (.goto 4, 3) := by decide +kernel
theorem dX7_isHalvedBy_89 : decode cX7_isHalvedBy 89 = .ok (.iconst 0, 1) := by decide +kernel
theorem dX7_isHalvedBy_90 : decode cX7_isHalvedBy 90 = .ok (.iadd, 1) := by decide +kernel
theorem dX7_isHalvedBy_91 : decode cX7_isHalvedBy 91 = .ok (.istore 6, 2) := by decide +kernel
theorem dX7_isHalvedBy_93 : decode cX7_isHalvedBy 93 = .ok (.iinc 7 1, 3) := by decide +kernel
theorem dX7_isHalvedBy_96 : decode cX7_isHalvedBy 96 = .ok (.goto (-78), 3) := by decide +kernel
theorem dX7_isHalvedBy_99 : decode cX7_isHalvedBy 99 = .ok (.iconst 2, 1) := by decide +kernel
theorem dX7_isHalvedBy_100 : decode cX7_isHalvedBy 100 = .ok (.iload 5, 2) := by decide +kernel
theorem dX7_isHalvedBy_102 : decode cX7_isHalvedBy 102 = .ok (.imul, 1) := by decide +kernel
theorem dX7_isHalvedBy_103 : decode cX7_isHalvedBy 103 = .ok (.iload 4, 2) := by decide +kernel
theorem dX7_isHalvedBy_105 : decode cX7_isHalvedBy 105 = .ok (.if_icmp .gt 16, 3) := by decide +kernel
theorem dX7_isHalvedBy_108 : decode cX7_isHalvedBy 108 = .ok (.iconst 2, 1) := by decide +kernel
theorem dX7_isHalvedBy_109 : decode cX7_isHalvedBy 109 = .ok (.iload 6, 2) := by decide +kernel
theorem dX7_isHalvedBy_111 : decode cX7_isHalvedBy 111 = .ok (.imul, 1) := by decide +kernel
theorem dX7_isHalvedBy_112 : decode cX7_isHalvedBy 112 = .ok (.iload 4, 2) := by decide +kernel
theorem dX7_isHalvedBy_114 : decode cX7_isHalvedBy 114 = .ok (.if_icmp .gt 7, 3) := by decide +kernel
theorem dX7_isHalvedBy_117 : decode cX7_isHalvedBy 117 = .ok (.iconst 1, 1) := by decide +kernel
theorem dX7_isHalvedBy_118 : decode cX7_isHalvedBy 118 = .ok (.goto 4, 3) := by decide +kernel
theorem dX7_isHalvedBy_121 : decode cX7_isHalvedBy 121 = .ok (.iconst 0, 1) := by decide +kernel
theorem dX7_isHalvedBy_122 : decode cX7_isHalvedBy 122 = .ok (.ireturn, 1) := by decide +kernel
theorem dX7_turn_0 : decode cX7_turn 0 = .ok (.aload_n 0, 1) := by decide +kernel
theorem dX7_turn_1 : decode cX7_turn 1 = .ok (.getfield 15, 3) := by decide +kernel
theorem dX7_turn_4 : decode cX7_turn 4 = .ok (.iload_n 2, 1) := by decide +kernel
theorem dX7_turn_5 : decode cX7_turn 5 = .ok (.iaload, 1) := by decide +kernel
theorem dX7_turn_6 : decode cX7_turn 6 = .ok (.aload_n 0, 1) := by decide +kernel
theorem dX7_turn_7 : decode cX7_turn 7 = .ok (.getfield 15, 3) := by decide +kernel
theorem dX7_turn_10 : decode cX7_turn 10 = .ok (.iload_n 1, 1) := by decide +kernel
theorem dX7_turn_11 : decode cX7_turn 11 = .ok (.iaload, 1) := by decide +kernel
theorem dX7_turn_12 : decode cX7_turn 12 = .ok (.isub, 1) := by decide +kernel
theorem dX7_turn_13 : decode cX7_turn 13 = .ok (.aload_n 0, 1) := by decide +kernel
theorem dX7_turn_14 : decode cX7_turn 14 = .ok (.getfield 18, 3) := by decide +kernel
theorem dX7_turn_17 : decode cX7_turn 17 = .ok (.iload_n 3, 1) := by decide +kernel
theorem dX7_turn_18 : decode cX7_turn 18 = .ok (.iaload, 1) := by decide +kernel
theorem dX7_turn_19 : decode cX7_turn 19 = .ok (.aload_n 0, 1) := by decide +kernel
theorem dX7_turn_20 : decode cX7_turn 20 = .ok (.getfield 18, 3) := by decide +kernel
theorem dX7_turn_23 : decode cX7_turn 23 = .ok (.iload_n 1, 1) := by decide +kernel
theorem dX7_turn_24 : decode cX7_turn 24 = .ok (.iaload, 1) := by decide +kernel
theorem dX7_turn_25 : decode cX7_turn 25 = .ok (.isub, 1) := by decide +kernel
theorem dX7_turn_26 : decode cX7_turn 26 = .ok (.imul, 1) := by decide +kernel
theorem dX7_turn_27 : decode cX7_turn 27 = .ok (.aload_n 0, 1) := by decide +kernel
theorem dX7_turn_28 : decode cX7_turn 28 = .ok (.getfield 18, 3) := by decide +kernel
theorem dX7_turn_31 : decode cX7_turn 31 = .ok (.iload_n 2, 1) := by decide +kernel
theorem dX7_turn_32 : decode cX7_turn 32 = .ok (.iaload, 1) := by decide +kernel
theorem dX7_turn_33 : decode cX7_turn 33 = .ok (.aload_n 0, 1) := by decide +kernel
theorem dX7_turn_34 : decode cX7_turn 34 = .ok (.getfield 18, 3) := by decide +kernel
theorem dX7_turn_37 : decode cX7_turn 37 = .ok (.iload_n 1, 1) := by decide +kernel
theorem dX7_turn_38 : decode cX7_turn 38 = .ok (.iaload, 1) := by decide +kernel
theorem dX7_turn_39 : decode cX7_turn 39 = .ok (.isub, 1) := by decide +kernel
theorem dX7_turn_40 : decode cX7_turn 40 = .ok (.aload_n 0, 1) := by decide +kernel
theorem dX7_turn_41 : decode cX7_turn 41 = .ok (.getfield 15, 3) := by decide +kernel
theorem dX7_turn_44 : decode cX7_turn 44 = .ok (.iload_n 3, 1) := by decide +kernel
theorem dX7_turn_45 : decode cX7_turn 45 = .ok (.iaload, 1) := by decide +kernel
theorem dX7_turn_46 : decode cX7_turn 46 = .ok (.aload_n 0, 1) := by decide +kernel
theorem dX7_turn_47 : decode cX7_turn 47 = .ok (.getfield 15, 3) := by decide +kernel
theorem dX7_turn_50 : decode cX7_turn 50 = .ok (.iload_n 1, 1) := by decide +kernel
theorem dX7_turn_51 : decode cX7_turn 51 = .ok (.iaload, 1) := by decide +kernel
theorem dX7_turn_52 : decode cX7_turn 52 = .ok (.isub, 1) := by decide +kernel
theorem dX7_turn_53 : decode cX7_turn 53 = .ok (.imul, 1) := by decide +kernel
theorem dX7_turn_54 : decode cX7_turn 54 = .ok (.isub, 1) := by decide +kernel
theorem dX7_turn_55 : decode cX7_turn 55 = .ok (.ireturn, 1) := by decide +kernel
theorem dX8_init_0 : decode cX8_init 0 = .ok (.aload_n 0, 1) := by decide +kernel
theorem dX8_init_1 : decode cX8_init 1 = .ok (.invokespecial 3, 3) := by decide +kernel
theorem dX8_init_4 : decode cX8_init 4 = .ok (.aload_n 0, 1) := by decide +kernel
theorem dX8_init_5 : decode cX8_init 5 = .ok (.bipush 40, 2) := by decide +kernel
theorem dX8_init_7 : decode cX8_init 7 = .ok (.newarray .int, 2) := by decide +kernel
theorem dX8_init_9 : decode cX8_init 9 = .ok (.putfield 9, 3) := by decide +kernel
theorem dX8_init_12 : decode cX8_init 12 = .ok (.return_, 1) := by decide +kernel
theorem dX8_findWidest_0 : decode cX8_findWidest 0 = .ok (.aload_n 0, 1) := by decide +kernel
theorem dX8_findWidest_1 : decode cX8_findWidest 1 = .ok (.lconst 0, 1) := by decide +kernel
theorem dX8_findWidest_2 : decode cX8_findWidest 2 = .ok (.putfield 15, 3) := by decide +kernel
theorem dX8_findWidest_5 : decode cX8_findWidest 5 = .ok (.aload_n 0, 1) := by decide +kernel
theorem dX8_findWidest_6 : decode cX8_findWidest 6 = .ok (.lconst 1, 1) := by decide +kernel
theorem dX8_findWidest_7 : decode cX8_findWidest 7 = .ok (.putfield 19, 3) := by decide +kernel
theorem dX8_findWidest_10 : decode cX8_findWidest 10 = .ok (.iconst 0, 1) := by decide +kernel
theorem dX8_findWidest_11 : decode cX8_findWidest 11 = .ok (.istore_n 3, 1) := by decide +kernel
theorem dX8_findWidest_12 : decode cX8_findWidest 12 = .ok (.iload_n 3, 1) := by decide +kernel
theorem dX8_findWidest_13 : decode cX8_findWidest 13 = .ok (.aload_n 2, 1) := by decide +kernel
theorem dX8_findWidest_14 : decode cX8_findWidest 14 = .ok (.getfield 22, 3) := by decide +kernel
theorem dX8_findWidest_17 : decode cX8_findWidest 17 = .ok (.if_icmp .ge 44, 3) := by decide +kernel
theorem dX8_findWidest_20 : decode cX8_findWidest 20 = .ok (.aload_n 0, 1) := by decide +kernel
theorem dX8_findWidest_21 : decode cX8_findWidest 21 = .ok (.aload_n 1, 1) := by decide +kernel
theorem dX8_findWidest_22 : decode cX8_findWidest 22 = .ok (.aload_n 2, 1) := by decide +kernel
theorem dX8_findWidest_23 : decode cX8_findWidest 23 = .ok (.getfield 28, 3) := by decide +kernel
theorem dX8_findWidest_26 : decode cX8_findWidest 26 = .ok (.iload_n 3, 1) := by decide +kernel
theorem dX8_findWidest_27 : decode cX8_findWidest 27 = .ok (.iaload, 1) := by decide +kernel
theorem dX8_findWidest_28 : decode cX8_findWidest 28 = .ok (.aload_n 2, 1) := by decide +kernel
theorem dX8_findWidest_29 : decode cX8_findWidest 29 = .ok (.getfield 31, 3) := by decide +kernel
theorem dX8_findWidest_32 : decode cX8_findWidest 32 = .ok (.iload_n 3, 1) := by decide +kernel
theorem dX8_findWidest_33 : decode cX8_findWidest 33 = .ok (.iaload, 1) := by decide +kernel
theorem dX8_findWidest_34 : decode cX8_findWidest 34 = .ok (.invokevirtual 34, 3) := by decide +kernel
theorem dX8_findWidest_37 : decode cX8_findWidest 37 = .ok (.aload_n 0, 1) := by decide +kernel
theorem dX8_findWidest_38 : decode cX8_findWidest 38 = .ok (.aload_n 1, 1) := by decide +kernel
theorem dX8_findWidest_39 : decode cX8_findWidest 39 = .ok (.aload_n 2, 1) := by decide +kernel
theorem dX8_findWidest_40 : decode cX8_findWidest 40 = .ok (.getfield 31, 3) := by decide +kernel
theorem dX8_findWidest_43 : decode cX8_findWidest 43 = .ok (.iload_n 3, 1) := by decide +kernel
theorem dX8_findWidest_44 : decode cX8_findWidest 44 = .ok (.iaload, 1) := by decide +kernel
theorem dX8_findWidest_45 : decode cX8_findWidest 45 = .ok (.aload_n 2, 1) := by decide +kernel
theorem dX8_findWidest_46 : decode cX8_findWidest 46 = .ok (.getfield 28, 3) := by decide +kernel
theorem dX8_findWidest_49 : decode cX8_findWidest 49 = .ok (.iload_n 3, 1) := by decide +kernel
theorem dX8_findWidest_50 : decode cX8_findWidest 50 = .ok (.iaload, 1) := by decide +kernel
theorem dX8_findWidest_51 : decode cX8_findWidest 51 = .ok (.ineg, 1) := by decide +kernel
theorem dX8_findWidest_52 : decode cX8_findWidest 52 = .ok (.invokevirtual 34, 3) := by decide +kernel
theorem dX8_findWidest_55 : decode cX8_findWidest 55 = .ok (.iinc 3 1, 3) := by decide +kernel
theorem dX8_findWidest_58 : decode cX8_findWidest 58 = .ok (.goto (-46), 3) := by decide +kernel
theorem dX8_findWidest_61 : decode cX8_findWidest 61 = .ok (.aload_n 0, 1) := by decide +kernel
theorem dX8_findWidest_62 : decode cX8_findWidest 62 = .ok (.getfield 15, 3) := by decide +kernel
theorem dX8_findWidest_65 : decode cX8_findWidest 65 = .ok (.aload_n 0, 1) := by decide +kernel
theorem dX8_findWidest_66 : decode cX8_findWidest 66 = .ok (.getfield 19, 3) := by decide +kernel
theorem dX8_findWidest_69 : decode cX8_findWidest 69 = .ok (.invokestatic 38, 3) := by decide +kernel
theorem dX8_findWidest_72 : decode cX8_findWidest 72 = .ok (.lstore_n 3, 1) := by decide +kernel
theorem dX8_findWidest_73 : decode cX8_findWidest 73 = .ok (.lload_n 3, 1) := by decide +kernel
theorem dX8_findWidest_74 : decode cX8_findWidest 74 = .ok (.lconst 1, 1) := by decide +kernel
theorem dX8_findWidest_75 : decode cX8_findWidest 75 = .ok (.lcmp, 1) := by decide +kernel
theorem dX8_findWidest_76 : decode cX8_findWidest 76 = .ok (.ifCond .le 23, 3) := by decide +kernel
theorem dX8_findWidest_79 : decode cX8_findWidest 79 = .ok (.aload_n 0, 1) := by decide +kernel
theorem dX8_findWidest_80 : decode cX8_findWidest 80 = .ok (.aload_n 0, 1) := by decide +kernel
theorem dX8_findWidest_81 : decode cX8_findWidest 81 = .ok (.getfield 15, 3) := by decide +kernel
theorem dX8_findWidest_84 : decode cX8_findWidest 84 = .ok (.lload_n 3, 1) := by decide +kernel
theorem dX8_findWidest_85 : decode cX8_findWidest 85 = .ok (.ldiv, 1) := by decide +kernel
theorem dX8_findWidest_86 : decode cX8_findWidest 86 = .ok (.putfield 15, 3) := by decide +kernel
theorem dX8_findWidest_89 : decode cX8_findWidest 89 = .ok (.aload_n 0, 1) := by decide +kernel
theorem dX8_findWidest_90 : decode cX8_findWidest 90 = .ok (.aload_n 0, 1) := by decide +kernel
theorem dX8_findWidest_91 : decode cX8_findWidest 91 = .ok (.getfield 19, 3) := by decide +kernel
theorem dX8_findWidest_94 : decode cX8_findWidest 94 = .ok (.lload_n 3, 1) := by decide +kernel
theorem dX8_findWidest_95 : decode cX8_findWidest 95 = .ok (.ldiv, 1) := by decide +kernel
theorem dX8_findWidest_96 : decode cX8_findWidest 96 = .ok (.putfield 19, 3) := by decide +kernel
theorem dX8_findWidest_99 : decode cX8_findWidest 99 = .ok (.aload_n 0, 1) := by decide +kernel
theorem dX8_findWidest_100 : decode cX8_findWidest 100 = .ok (.iconst 1, 1) := by decide +kernel
theorem dX8_findWidest_101 : decode cX8_findWidest 101 = .ok (.putfield 42, 3) := by decide +kernel
theorem dX8_findWidest_104 : decode cX8_findWidest 104 = .ok (.return_, 1) := by decide +kernel
theorem dX8_consider_0 : decode cX8_consider 0 = .ok (.iconst 0, 1) := by decide +kernel
theorem dX8_consider_1 : decode cX8_consider 1 = .ok (.istore 4, 2) := by decide +kernel
theorem dX8_consider_3 : decode cX8_consider 3 = .ok (.iload 4, 2) := by decide +kernel
theorem dX8_consider_5 : decode cX8_consider 5 = .ok (.aload_n 1, 1) := by decide +kernel
theorem dX8_consider_6 : decode cX8_consider 6 = .ok (.getfield 46, 3) := by decide +kernel
theorem dX8_consider_9 : decode cX8_consider 9 = .ok (.if_icmp .ge 34, 3) := by decide +kernel
theorem dX8_consider_12 : decode cX8_consider 12 = .ok (.aload_n 0, 1) := by decide +kernel
theorem dX8_consider_13 : decode cX8_consider 13 = .ok (.iload 4, 2) := by decide +kernel
theorem dX8_consider_15 : decode cX8_consider 15 = .ok (.iload_n 2, 1) := by decide +kernel
theorem dX8_consider_16 : decode cX8_consider 16 = .ok (.aload_n 1, 1) := by decide +kernel
theorem dX8_consider_17 : decode cX8_consider 17 = .ok (.getfield 49, 3) := by decide +kernel
theorem dX8_consider_20 : decode cX8_consider 20 = .ok (.iload 4, 2) := by decide +kernel
theorem dX8_consider_22 : decode cX8_consider 22 = .ok (.iaload, 1) := by decide +kernel
theorem dX8_consider_23 : decode cX8_consider 23 = .ok (.imul, 1) := by decide +kernel
theorem dX8_consider_24 : decode cX8_consider 24 = .ok (.iload_n 3, 1) := by decide +kernel
theorem dX8_consider_25 : decode cX8_consider 25 = .ok (.aload_n 1, 1) := by decide +kernel
theorem dX8_consider_26 : decode cX8_consider 26 = .ok (.getfield 52, 3) := by decide +kernel
theorem dX8_consider_29 : decode cX8_consider 29 = .ok (.iload 4, 2) := by decide +kernel
theorem dX8_consider_31 : decode cX8_consider 31 = .ok (.iaload, 1) := by decide +kernel
theorem dX8_consider_32 : decode cX8_consider 32 = .ok (.imul, 1) := by decide +kernel
theorem dX8_consider_33 : decode cX8_consider 33 = .ok (.iadd, 1) := by decide +kernel
theorem dX8_consider_34 : decode cX8_consider 34 = .ok (.invokevirtual 55, 3) := by decide +kernel
theorem dX8_consider_37 : decode cX8_consider 37 = .ok (.iinc 4 1, 3) := by decide +kernel
theorem dX8_consider_40 : decode cX8_consider 40 = .ok (.goto (-37), 3) := by decide +kernel
theorem dX8_consider_43 : decode cX8_consider 43 = .ok (.lconst 0, 1) := by decide +kernel
theorem dX8_consider_44 : decode cX8_consider 44 = .ok (.lstore 4, 2) := by decide +kernel
theorem dX8_consider_46 : decode cX8_consider 46 = .ok (.iconst 1, 1) := by decide +kernel
theorem dX8_consider_47 : decode cX8_consider 47 = .ok (.istore 6, 2) := by decide +kernel
theorem dX8_consider_49 : decode cX8_consider 49 = .ok (.iload 6, 2) := by decide +kernel
theorem dX8_consider_51 : decode cX8_consider 51 = .ok (.aload_n 1, 1) := by decide +kernel
theorem dX8_consider_52 : decode cX8_consider 52 = .ok (.getfield 46, 3) := by decide +kernel
theorem dX8_consider_55 : decode cX8_consider 55 = .ok (.if_icmp .ge 34, 3) := by decide +kernel
theorem dX8_consider_58 : decode cX8_consider 58 = .ok (.lload 4, 2) := by decide +kernel
theorem dX8_consider_60 : decode cX8_consider 60 = .ok (.aload_n 0, 1) := by decide +kernel
theorem dX8_consider_61 : decode cX8_consider 61 = .ok (.getfield 9, 3) := by decide +kernel
theorem dX8_consider_64 : decode cX8_consider 64 = .ok (.iload 6, 2) := by decide +kernel
theorem dX8_consider_66 : decode cX8_consider 66 = .ok (.iaload, 1) := by decide +kernel
theorem dX8_consider_67 : decode cX8_consider 67 = .ok (.aload_n 0, 1) := by decide +kernel
theorem dX8_consider_68 : decode cX8_consider 68 = .ok (.getfield 9, 3) := by decide +kernel
theorem dX8_consider_71 : decode cX8_consider 71 = .ok (.iload 6, 2) := by decide +kernel
theorem dX8_consider_73 : decode cX8_consider 73 = .ok (.iconst 1, 1) := by decide +kernel
theorem dX8_consider_74 : decode cX8_consider 74 = .ok (.isub, 1) := by decide +kernel
theorem dX8_consider_75 : decode cX8_consider 75 = .ok (.iaload, 1) := by decide +kernel
theorem dX8_consider_76 : decode cX8_consider 76 = .ok (.isub, 1) := by decide +kernel
theorem dX8_consider_77 : decode cX8_consider 77 = .ok (.i2l, 1) := by decide +kernel
theorem dX8_consider_78 : decode cX8_consider 78 = .ok (.invokestatic 59, 3) := by decide +kernel
theorem dX8_consider_81 : decode cX8_consider 81 = .ok (.lstore 4, 2) := by decide +kernel
theorem dX8_consider_83 : decode cX8_consider 83 = .ok (.iinc 6 1, 3) := by decide +kernel
theorem dX8_consider_86 : decode cX8_consider 86 = .ok (.goto (-37), 3) := by decide +kernel
theorem dX8_consider_89 : decode cX8_consider 89 = .ok (.lload 4, 2) := by decide +kernel
theorem dX8_consider_91 : decode cX8_consider 91 = .ok (.lload 4, 2) := by decide +kernel
theorem dX8_consider_93 : decode cX8_consider 93 = .ok (.lmul, 1) := by decide +kernel
theorem dX8_consider_94 : decode cX8_consider 94 = .ok (.lstore 6, 2) := by decide +kernel
theorem dX8_consider_96 : decode cX8_consider 96 = .ok (.iload_n 2, 1) := by decide +kernel
theorem dX8_consider_97 : decode cX8_consider 97 = .ok (.i2l, 1) := by decide +kernel
theorem dX8_consider_98 : decode cX8_consider 98 = .ok (.iload_n 2, 1) := by decide +kernel
theorem dX8_consider_99 : decode cX8_consider 99 = .ok (.i2l, 1) := by decide +kernel
theorem dX8_consider_100 : decode cX8_consider 100 = .ok (.lmul, 1) := by decide +kernel
theorem dX8_consider_101 : decode cX8_consider 101 = .ok (.iload_n 3, 1) := by decide +kernel
theorem dX8_consider_102 : decode cX8_consider 102 = .ok (.i2l, 1) := by decide +kernel
theorem dX8_consider_103 : decode cX8_consider 103 = .ok (.iload_n 3, 1) := by decide +kernel
theorem dX8_consider_104 : decode cX8_consider 104 = .ok (.i2l, 1) := by decide +kernel
theorem dX8_consider_105 : decode cX8_consider 105 = .ok (.lmul, 1) := by decide +kernel
theorem dX8_consider_106 : decode cX8_consider 106 = .ok (.ladd, 1) := by decide +kernel
theorem dX8_consider_107 : decode cX8_consider 107 = .ok (.lstore 8, 2) := by decide +kernel
theorem dX8_consider_109 : decode cX8_consider 109 = .ok (.lload 6, 2) := by decide +kernel
theorem dX8_consider_111 : decode cX8_consider 111 = .ok (.aload_n 0, 1) := by decide +kernel
theorem dX8_consider_112 : decode cX8_consider 112 = .ok (.getfield 19, 3) := by decide +kernel
theorem dX8_consider_115 : decode cX8_consider 115 = .ok (.lmul, 1) := by decide +kernel
theorem dX8_consider_116 : decode cX8_consider 116 = .ok (.aload_n 0, 1) := by decide +kernel
theorem dX8_consider_117 : decode cX8_consider 117 = .ok (.getfield 15, 3) := by decide +kernel
theorem dX8_consider_120 : decode cX8_consider 120 = .ok (.lload 8, 2) := by decide +kernel
theorem dX8_consider_122 : decode cX8_consider 122 = .ok (.lmul, 1) := by decide +kernel
theorem dX8_consider_123 : decode cX8_consider 123 = .ok (.lcmp, 1) := by decide +kernel
theorem dX8_consider_124 : decode cX8_consider 124 = .ok (.ifCond .le 15, 3) := by decide +kernel
theorem dX8_consider_127 : decode cX8_consider 127 = .ok (.aload_n 0, 1) := by decide +kernel
theorem dX8_consider_128 : decode cX8_consider 128 = .ok (.lload 6, 2) := by decide +kernel
theorem dX8_consider_130 : decode cX8_consider 130 = .ok (.putfield 15, 3) := by decide +kernel
theorem dX8_consider_133 : decode cX8_consider 133 = .ok (.aload_n 0, 1) := by decide +kernel
theorem dX8_consider_134 : decode cX8_consider 134 = .ok (.lload 8, 2) := by decide +kernel
theorem dX8_consider_136 : decode cX8_consider 136 = .ok (.putfield 19, 3) := by decide +kernel
theorem dX8_consider_139 : decode cX8_consider 139 = .ok (.return_, 1) := by decide +kernel
theorem dX8_putInOrder_0 : decode cX8_putInOrder 0 = .ok (.iload_n 1, 1) := by decide +kernel
theorem dX8_putInOrder_1 : decode cX8_putInOrder 1 = .ok (.istore_n 3, 1) := by decide +kernel
theorem dX8_putInOrder_2 : decode cX8_putInOrder 2 = .ok (.iload_n 3, 1) := by decide +kernel
theorem dX8_putInOrder_3 : decode cX8_putInOrder 3 = .ok (.ifCond .le 35, 3) := by decide +kernel
theorem dX8_putInOrder_6 : decode cX8_putInOrder 6 = .ok (.aload_n 0, 1) := by decide +kernel
theorem dX8_putInOrder_7 : decode cX8_putInOrder 7 = .ok (.getfield 9, 3) := by decide +kernel
theorem dX8_putInOrder_10 : decode cX8_putInOrder 10 = .ok (.iload_n 3, 1) := by decide +kernel
theorem dX8_putInOrder_11 : decode cX8_putInOrder 11 = .ok (.iconst 1, 1) := by decide +kernel
theorem dX8_putInOrder_12 : decode cX8_putInOrder 12 = .ok (.isub, 1) := by decide +kernel
theorem dX8_putInOrder_13 : decode cX8_putInOrder 13 = .ok (.iaload, 1) := by decide +kernel
theorem dX8_putInOrder_14 : decode cX8_putInOrder 14 = .ok (.iload_n 2, 1) := by decide +kernel
theorem dX8_putInOrder_15 : decode cX8_putInOrder 15 = .ok (.if_icmp .le 23, 3) := by decide +kernel
theorem dX8_putInOrder_18 : decode cX8_putInOrder 18 = .ok (.aload_n 0, 1) := by decide +kernel
theorem dX8_putInOrder_19 : decode cX8_putInOrder 19 = .ok (.getfield 9, 3) := by decide +kernel
theorem dX8_putInOrder_22 : decode cX8_putInOrder 22 = .ok (.iload_n 3, 1) := by decide +kernel
theorem dX8_putInOrder_23 : decode cX8_putInOrder 23 = .ok (.aload_n 0, 1) := by decide +kernel
theorem dX8_putInOrder_24 : decode cX8_putInOrder 24 = .ok (.getfield 9, 3) := by decide +kernel
theorem dX8_putInOrder_27 : decode cX8_putInOrder 27 = .ok (.iload_n 3, 1) := by decide +kernel
theorem dX8_putInOrder_28 : decode cX8_putInOrder 28 = .ok (.iconst 1, 1) := by decide +kernel
theorem dX8_putInOrder_29 : decode cX8_putInOrder 29 = .ok (.isub, 1) := by decide +kernel
theorem dX8_putInOrder_30 : decode cX8_putInOrder 30 = .ok (.iaload, 1) := by decide +kernel
theorem dX8_putInOrder_31 : decode cX8_putInOrder 31 = .ok (.iastore, 1) := by decide +kernel
theorem dX8_putInOrder_32 : decode cX8_putInOrder 32 = .ok (.iinc 3 (-1), 3) := by decide +kernel
theorem dX8_putInOrder_35 : decode cX8_putInOrder 35 = .ok (.goto (-33), 3) := by decide +kernel
theorem dX8_putInOrder_38 : decode cX8_putInOrder 38 = .ok (.aload_n 0, 1) := by decide +kernel
theorem dX8_putInOrder_39 : decode cX8_putInOrder 39 = .ok (.getfield 9, 3) := by decide +kernel
theorem dX8_putInOrder_42 : decode cX8_putInOrder 42 = .ok (.iload_n 3, 1) := by decide +kernel
theorem dX8_putInOrder_43 : decode cX8_putInOrder 43 = .ok (.iload_n 2, 1) := by decide +kernel
theorem dX8_putInOrder_44 : decode cX8_putInOrder 44 = .ok (.iastore, 1) := by decide +kernel
theorem dX8_putInOrder_45 : decode cX8_putInOrder 45 = .ok (.return_, 1) := by decide +kernel
theorem dX9_init_0 : decode cX9_init 0 = .ok (.aload_n 0, 1) := by decide +kernel
theorem dX9_init_1 : decode cX9_init 1 = .ok (.invokespecial 1, 3) := by decide +kernel
theorem dX9_init_4 : decode cX9_init 4 = .ok (.aload_n 0, 1) := by decide +kernel
theorem dX9_init_5 : decode cX9_init 5 = .ok (.iload_n 1, 1) := by decide +kernel
theorem dX9_init_6 : decode cX9_init 6 = .ok (.ifCond .le 7, 3) := by decide +kernel
theorem dX9_init_9 : decode cX9_init 9 = .ok (.iload_n 1, 1) := by decide +kernel
theorem dX9_init_10 : decode cX9_init 10 = .ok (.goto 4, 3) := by decide +kernel
theorem dX9_init_13 : decode cX9_init 13 = .ok (.iconst 0, 1) := by decide +kernel
theorem dX9_init_14 : decode cX9_init 14 = .ok (.newarray .int, 2) := by decide +kernel
theorem dX9_init_16 : decode cX9_init 16 = .ok (.putfield 7, 3) := by decide +kernel
theorem dX9_init_19 : decode cX9_init 19 = .ok (.return_, 1) := by decide +kernel
theorem dX9_leave_0 : decode cX9_leave 0 = .ok (.aload_n 0, 1) := by decide +kernel
theorem dX9_leave_1 : decode cX9_leave 1 = .ok (.getfield 13, 3) := by decide +kernel
theorem dX9_leave_4 : decode cX9_leave 4 = .ok (.ifCond .lt 35, 3) := by decide +kernel
theorem dX9_leave_7 : decode cX9_leave 7 = .ok (.aload_n 0, 1) := by decide +kernel
theorem dX9_leave_8 : decode cX9_leave 8 = .ok (.getfield 13, 3) := by decide +kernel
theorem dX9_leave_11 : decode cX9_leave 11 = .ok (.aload_n 0, 1) := by decide +kernel
theorem dX9_leave_12 : decode cX9_leave 12 = .ok (.getfield 7, 3) := by decide +kernel
theorem dX9_leave_15 : decode cX9_leave 15 = .ok (.arraylength, 1) := by decide +kernel
theorem dX9_leave_16 : decode cX9_leave 16 = .ok (.if_icmp .ge 23, 3) := by decide +kernel
theorem dX9_leave_19 : decode cX9_leave 19 = .ok (.aload_n 0, 1) := by decide +kernel
theorem dX9_leave_20 : decode cX9_leave 20 = .ok (.getfield 7, 3) := by decide +kernel
theorem dX9_leave_23 : decode cX9_leave 23 = .ok (.aload_n 0, 1) := by decide +kernel
theorem dX9_leave_24 : decode cX9_leave 24 = .ok (.getfield 13, 3) := by decide +kernel
theorem dX9_leave_27 : decode cX9_leave 27 = .ok (.iload_n 1, 1) := by decide +kernel
theorem dX9_leave_28 : decode cX9_leave 28 = .ok (.iastore, 1) := by decide +kernel
theorem dX9_leave_29 : decode cX9_leave 29 = .ok (.aload_n 0, 1) := by decide +kernel
theorem dX9_leave_30 : decode cX9_leave 30 = .ok (.dup, 1) := by decide +kernel
theorem dX9_leave_31 : decode cX9_leave 31 = .ok (.getfield 13, 3) := by decide +kernel
theorem dX9_leave_34 : decode cX9_leave 34 = .ok (.iconst 1, 1) := by decide +kernel
theorem dX9_leave_35 : decode cX9_leave 35 = .ok (.iadd, 1) := by decide +kernel
theorem dX9_leave_36 : decode cX9_leave 36 = .ok (.putfield 13, 3) := by decide +kernel
theorem dX9_leave_39 : decode cX9_leave 39 = .ok (.return_, 1) := by decide +kernel
theorem dX10_init_0 : decode cX10_init 0 = .ok (.aload_n 0, 1) := by decide +kernel
theorem dX10_init_1 : decode cX10_init 1 = .ok (.invokespecial 1, 3) := by decide +kernel
theorem dX10_init_4 : decode cX10_init 4 = .ok (.aload_n 0, 1) := by decide +kernel
theorem dX10_init_5 : decode cX10_init 5 = .ok (.bipush 8, 2) := by decide +kernel
theorem dX10_init_7 : decode cX10_init 7 = .ok (.anewarray 9, 3) := by decide +kernel
theorem dX10_init_10 : decode cX10_init 10 = .ok (.putfield 11, 3) := by decide +kernel
theorem dX10_init_13 : decode cX10_init 13 = .ok (.iconst 0, 1) := by decide +kernel
theorem dX10_init_14 : decode cX10_init 14 = .ok (.istore_n 1, 1) := by decide +kernel
theorem dX10_init_15 : decode cX10_init 15 = .ok (.iload_n 1, 1) := by decide +kernel
theorem dX10_init_16 : decode cX10_init 16 = .ok (.bipush 8, 2) := by decide +kernel
theorem dX10_init_18 : decode cX10_init 18 = .ok (.if_icmp .ge 22, 3) := by decide +kernel
theorem dX10_init_21 : decode cX10_init 21 = .ok (.aload_n 0, 1) := by decide +kernel
theorem dX10_init_22 : decode cX10_init 22 = .ok (.getfield 11, 3) := by decide +kernel
theorem dX10_init_25 : decode cX10_init 25 = .ok (.iload_n 1, 1) := by decide +kernel
theorem dX10_init_26 : decode cX10_init 26 = .ok (.new 9, 3) := by decide +kernel
theorem dX10_init_29 : decode cX10_init 29 = .ok (.dup, 1) := by decide +kernel
theorem dX10_init_30 : decode cX10_init 30 = .ok (.invokespecial 15, 3) := by decide +kernel
theorem dX10_init_33 : decode cX10_init 33 = .ok (.aastore, 1) := by decide +kernel
theorem dX10_init_34 : decode cX10_init 34 = .ok (.iinc 1 1, 3) := by decide +kernel
theorem dX10_init_37 : decode cX10_init 37 = .ok (.goto (-22), 3) := by decide +kernel
theorem dX10_init_40 : decode cX10_init 40 = .ok (.aload_n 0, 1) := by decide +kernel
theorem dX10_init_41 : decode cX10_init 41 = .ok (.bipush 40, 2) := by decide +kernel
theorem dX10_init_43 : decode cX10_init 43 = .ok (.anewarray 16, 3) := by decide +kernel
theorem dX10_init_46 : decode cX10_init 46 = .ok (.putfield 18, 3) := by decide +kernel
theorem dX10_init_49 : decode cX10_init 49 = .ok (.iconst 0, 1) := by decide +kernel
theorem dX10_init_50 : decode cX10_init 50 = .ok (.istore_n 1, 1) := by decide +kernel
theorem dX10_init_51 : decode cX10_init 51 = .ok (.iload_n 1, 1) := by decide +kernel
theorem dX10_init_52 : decode cX10_init 52 = .ok (.bipush 40, 2) := by decide +kernel
theorem dX10_init_54 : decode cX10_init 54 = .ok (.if_icmp .ge 22, 3) := by decide +kernel
theorem dX10_init_57 : decode cX10_init 57 = .ok (.aload_n 0, 1) := by decide +kernel
theorem dX10_init_58 : decode cX10_init 58 = .ok (.getfield 18, 3) := by decide +kernel
theorem dX10_init_61 : decode cX10_init 61 = .ok (.iload_n 1, 1) := by decide +kernel
theorem dX10_init_62 : decode cX10_init 62 = .ok (.new 16, 3) := by decide +kernel
theorem dX10_init_65 : decode cX10_init 65 = .ok (.dup, 1) := by decide +kernel
theorem dX10_init_66 : decode cX10_init 66 = .ok (.invokespecial 22, 3) := by decide +kernel
theorem dX10_init_69 : decode cX10_init 69 = .ok (.aastore, 1) := by decide +kernel
theorem dX10_init_70 : decode cX10_init 70 = .ok (.iinc 1 1, 3) := by decide +kernel
theorem dX10_init_73 : decode cX10_init 73 = .ok (.goto (-22), 3) := by decide +kernel
theorem dX10_init_76 : decode cX10_init 76 = .ok (.aload_n 0, 1) := by decide +kernel
theorem dX10_init_77 : decode cX10_init 77 = .ok (.new 23, 3) := by decide +kernel
theorem dX10_init_80 : decode cX10_init 80 = .ok (.dup, 1) := by decide +kernel
theorem dX10_init_81 : decode cX10_init 81 = .ok (.invokespecial 25, 3) := by decide +kernel
theorem dX10_init_84 : decode cX10_init 84 = .ok (.putfield 26, 3) := by decide +kernel
theorem dX10_init_87 : decode cX10_init 87 = .ok (.aload_n 0, 1) := by decide +kernel
theorem dX10_init_88 : decode cX10_init 88 = .ok (.new 30, 3) := by decide +kernel
end
section
theorem dX10_init_91 : decode cX10_init 91 = .ok (.dup, 1) := by decide +kernel
theorem dX10_init_92 : decode cX10_init 92 = .ok (.bipush 16, 2) := by decide +kernel
theorem dX10_init_94 : decode cX10_init 94 = .ok (.invokespecial 32, 3) := by decide +kernel
theorem dX10_init_97 : decode cX10_init 97 = .ok (.putfield 35, 3) := by decide +kernel
theorem dX10_init_100 : decode cX10_init 100 = .ok (.aload_n 0, 1) := by decide +kernel
theorem dX10_init_101 : decode cX10_init 101 = .ok (.new 30, 3) := by decide +kernel
theorem dX10_init_104 : decode cX10_init 104 = .ok (.dup, 1) := by decide +kernel
theorem dX10_init_105 : decode cX10_init 105 = .ok (.iconst 0, 1) := by decide +kernel
theorem dX10_init_106 : decode cX10_init 106 = .ok (.invokespecial 32, 3) := by decide +kernel
theorem dX10_init_109 : decode cX10_init 109 = .ok (.putfield 39, 3) := by decide +kernel
theorem dX10_init_112 : decode cX10_init 112 = .ok (.aload_n 0, 1) := by decide +kernel
theorem dX10_init_113 : decode cX10_init 113 = .ok (.new 42, 3) := by decide +kernel
theorem dX10_init_116 : decode cX10_init 116 = .ok (.dup, 1) := by decide +kernel
theorem dX10_init_117 : decode cX10_init 117 = .ok (.invokespecial 44, 3) := by decide +kernel
theorem dX10_init_120 : decode cX10_init 120 = .ok (.putfield 45, 3) := by decide +kernel
theorem dX10_init_123 : decode cX10_init 123 = .ok (.aload_n 0, 1) := by decide +kernel
theorem dX10_init_124 : decode cX10_init 124 = .ok (.new 49, 3) := by decide +kernel
theorem dX10_init_127 : decode cX10_init 127 = .ok (.dup, 1) := by decide +kernel
theorem dX10_init_128 : decode cX10_init 128 = .ok (.invokespecial 51, 3) := by decide +kernel
theorem dX10_init_131 : decode cX10_init 131 = .ok (.putfield 52, 3) := by decide +kernel
theorem dX10_init_134 : decode cX10_init 134 = .ok (.aload_n 0, 1) := by decide +kernel
theorem dX10_init_135 : decode cX10_init 135 = .ok (.new 56, 3) := by decide +kernel
theorem dX10_init_138 : decode cX10_init 138 = .ok (.dup, 1) := by decide +kernel
theorem dX10_init_139 : decode cX10_init 139 = .ok (.invokespecial 58, 3) := by decide +kernel
theorem dX10_init_142 : decode cX10_init 142 = .ok (.putfield 59, 3) := by decide +kernel
theorem dX10_init_145 : decode cX10_init 145 = .ok (.aload_n 0, 1) := by decide +kernel
theorem dX10_init_146 : decode cX10_init 146 = .ok (.new 63, 3) := by decide +kernel
theorem dX10_init_149 : decode cX10_init 149 = .ok (.dup, 1) := by decide +kernel
theorem dX10_init_150 : decode cX10_init 150 = .ok (.invokespecial 65, 3) := by decide +kernel
theorem dX10_init_153 : decode cX10_init 153 = .ok (.putfield 66, 3) := by decide +kernel
theorem dX10_init_156 : decode cX10_init 156 = .ok (.aload_n 0, 1) := by decide +kernel
theorem dX10_init_157 : decode cX10_init 157 = .ok (.new 70, 3) := by decide +kernel
theorem dX10_init_160 : decode cX10_init 160 = .ok (.dup, 1) := by decide +kernel
theorem dX10_init_161 : decode cX10_init 161 = .ok (.invokespecial 72, 3) := by decide +kernel
theorem dX10_init_164 : decode cX10_init 164 = .ok (.putfield 73, 3) := by decide +kernel
theorem dX10_init_167 : decode cX10_init 167 = .ok (.aload_n 0, 1) := by decide +kernel
theorem dX10_init_168 : decode cX10_init 168 = .ok (.new 77, 3) := by decide +kernel
theorem dX10_init_171 : decode cX10_init 171 = .ok (.dup, 1) := by decide +kernel
theorem dX10_init_172 : decode cX10_init 172 = .ok (.invokespecial 79, 3) := by decide +kernel
theorem dX10_init_175 : decode cX10_init 175 = .ok (.putfield 80, 3) := by decide +kernel
theorem dX10_init_178 : decode cX10_init 178 = .ok (.return_, 1) := by decide +kernel
theorem dX10_bed_0 : decode cX10_bed 0 = .ok (.iload_n 1, 1) := by decide +kernel
theorem dX10_bed_1 : decode cX10_bed 1 = .ok (.invokestatic 84, 3) := by decide +kernel
theorem dX10_bed_4 : decode cX10_bed 4 = .ok (.ifCond .eq 17, 3) := by decide +kernel
theorem dX10_bed_7 : decode cX10_bed 7 = .ok (.iload_n 2, 1) := by decide +kernel
theorem dX10_bed_8 : decode cX10_bed 8 = .ok (.iconst 3, 1) := by decide +kernel
theorem dX10_bed_9 : decode cX10_bed 9 = .ok (.invokestatic 88, 3) := by decide +kernel
theorem dX10_bed_12 : decode cX10_bed 12 = .ok (.ifCond .eq 9, 3) := by decide +kernel
theorem dX10_bed_15 : decode cX10_bed 15 = .ok (.iload_n 3, 1) := by decide +kernel
theorem dX10_bed_16 : decode cX10_bed 16 = .ok (.bipush 100, 2) := by decide +kernel
theorem dX10_bed_18 : decode cX10_bed 18 = .ok (.if_icmp .le 6, 3) := by decide +kernel
theorem dX10_bed_21 : decode cX10_bed 21 = .ok (.ldc 92, 2) := by decide +kernel
theorem dX10_bed_23 : decode cX10_bed 23 = .ok (.ireturn, 1) := by decide +kernel
theorem dX10_bed_24 : decode cX10_bed 24 = .ok (.iload_n 3, 1) := by decide +kernel
theorem dX10_bed_25 : decode cX10_bed 25 = .ok (.ifCond .ge 9, 3) := by decide +kernel
theorem dX10_bed_28 : decode cX10_bed 28 = .ok (.aload_n 0, 1) := by decide +kernel
theorem dX10_bed_29 : decode cX10_bed 29 = .ok (.iconst 4, 1) := by decide +kernel
theorem dX10_bed_30 : decode cX10_bed 30 = .ok (.invokevirtual 93, 3) := by decide +kernel
theorem dX10_bed_33 : decode cX10_bed 33 = .ok (.ireturn, 1) := by decide +kernel
theorem dX10_bed_34 : decode cX10_bed 34 = .ok (.aload_n 0, 1) := by decide +kernel
theorem dX10_bed_35 : decode cX10_bed 35 = .ok (.getfield 11, 3) := by decide +kernel
theorem dX10_bed_38 : decode cX10_bed 38 = .ok (.iload_n 1, 1) := by decide +kernel
theorem dX10_bed_39 : decode cX10_bed 39 = .ok (.aaload, 1) := by decide +kernel
theorem dX10_bed_40 : decode cX10_bed 40 = .ok (.iload_n 2, 1) := by decide +kernel
theorem dX10_bed_41 : decode cX10_bed 41 = .ok (.iload_n 3, 1) := by decide +kernel
theorem dX10_bed_42 : decode cX10_bed 42 = .ok (.invokevirtual 97, 3) := by decide +kernel
theorem dX10_bed_45 : decode cX10_bed 45 = .ok (.aload_n 0, 1) := by decide +kernel
theorem dX10_bed_46 : decode cX10_bed 46 = .ok (.iload_n 3, 1) := by decide +kernel
theorem dX10_bed_47 : decode cX10_bed 47 = .ok (.invokevirtual 101, 3) := by decide +kernel
theorem dX10_bed_50 : decode cX10_bed 50 = .ok (.ireturn, 1) := by decide +kernel
theorem dX10_set_0 : decode cX10_set 0 = .ok (.iload_n 1, 1) := by decide +kernel
theorem dX10_set_1 : decode cX10_set 1 = .ok (.invokestatic 84, 3) := by decide +kernel
theorem dX10_set_4 : decode cX10_set 4 = .ok (.ifCond .ne 7, 3) := by decide +kernel
theorem dX10_set_7 : decode cX10_set 7 = .ok (.ldc2_w 104, 3) := by decide +kernel
theorem dX10_set_10 : decode cX10_set 10 = .ok (.lreturn, 1) := by decide +kernel
theorem dX10_set_11 : decode cX10_set 11 = .ok (.aload_n 0, 1) := by decide +kernel
theorem dX10_set_12 : decode cX10_set 12 = .ok (.getfield 11, 3) := by decide +kernel
theorem dX10_set_15 : decode cX10_set 15 = .ok (.iload_n 1, 1) := by decide +kernel
theorem dX10_set_16 : decode cX10_set 16 = .ok (.aaload, 1) := by decide +kernel
theorem dX10_set_17 : decode cX10_set 17 = .ok (.astore 5, 2) := by decide +kernel
theorem dX10_set_19 : decode cX10_set 19 = .ok (.aload 5, 2) := by decide +kernel
theorem dX10_set_21 : decode cX10_set 21 = .ok (.getfield 106, 3) := by decide +kernel
theorem dX10_set_24 : decode cX10_set 24 = .ok (.ifCond .ne 10, 3) := by decide +kernel
theorem dX10_set_27 : decode cX10_set 27 = .ok (.aload_n 0, 1) := by decide +kernel
theorem dX10_set_28 : decode cX10_set 28 = .ok (.iconst 1, 1) := by decide +kernel
theorem dX10_set_29 : decode cX10_set 29 = .ok (.invokevirtual 93, 3) := by decide +kernel
theorem dX10_set_32 : decode cX10_set 32 = .ok (.i2l, 1) := by decide +kernel
theorem dX10_set_33 : decode cX10_set 33 = .ok (.lreturn, 1) := by decide +kernel
theorem dX10_set_34 : decode cX10_set 34 = .ok (.aload 5, 2) := by decide +kernel
theorem dX10_set_36 : decode cX10_set 36 = .ok (.iload_n 2, 1) := by decide +kernel
theorem dX10_set_37 : decode cX10_set 37 = .ok (.iconst 1, 1) := by decide +kernel
theorem dX10_set_38 : decode cX10_set 38 = .ok (.invokevirtual 110, 3) := by decide +kernel
theorem dX10_set_41 : decode cX10_set 41 = .ok (.ifCond .ne 10, 3) := by decide +kernel
theorem dX10_set_44 : decode cX10_set 44 = .ok (.aload_n 0, 1) := by decide +kernel
theorem dX10_set_45 : decode cX10_set 45 = .ok (.iconst 2, 1) := by decide +kernel
theorem dX10_set_46 : decode cX10_set 46 = .ok (.invokevirtual 93, 3) := by decide +kernel
theorem dX10_set_49 : decode cX10_set 49 = .ok (.i2l, 1) := by decide +kernel
theorem dX10_set_50 : decode cX10_set 50 = .ok (.lreturn, 1) := by decide +kernel
theorem dX10_set_51 : decode cX10_set 51 = .ok (.aload 5, 2) := by decide +kernel
theorem dX10_set_53 : decode cX10_set 53 = .ok (.getfield 113, 3) := by decide +kernel
theorem dX10_set_56 : decode cX10_set 56 = .ok (.iload_n 2, 1) := by decide +kernel
theorem dX10_set_57 : decode cX10_set 57 = .ok (.aload 5, 2) := by decide +kernel
theorem dX10_set_59 : decode cX10_set 59 = .ok (.lload_n 3, 1) := by decide +kernel
theorem dX10_set_60 : decode cX10_set 60 = .ok (.invokevirtual 117, 3) := by decide +kernel
theorem dX10_set_63 : decode cX10_set 63 = .ok (.lastore, 1) := by decide +kernel
theorem dX10_set_64 : decode cX10_set 64 = .ok (.aload_n 0, 1) := by decide +kernel
theorem dX10_set_65 : decode cX10_set 65 = .ok (.iconst 0, 1) := by decide +kernel
theorem dX10_set_66 : decode cX10_set 66 = .ok (.putfield 121, 3) := by decide +kernel
theorem dX10_set_69 : decode cX10_set 69 = .ok (.aload 5, 2) := by decide +kernel
theorem dX10_set_71 : decode cX10_set 71 = .ok (.getfield 113, 3) := by decide +kernel
theorem dX10_set_74 : decode cX10_set 74 = .ok (.iload_n 2, 1) := by decide +kernel
theorem dX10_set_75 : decode cX10_set 75 = .ok (.laload, 1) := by decide +kernel
theorem dX10_set_76 : decode cX10_set 76 = .ok (.lreturn, 1) := by decide +kernel
theorem dX10_drop_0 : decode cX10_drop 0 = .ok (.iload_n 1, 1) := by decide +kernel
theorem dX10_drop_1 : decode cX10_drop 1 = .ok (.invokestatic 84, 3) := by decide +kernel
theorem dX10_drop_4 : decode cX10_drop 4 = .ok (.ifCond .ne 6, 3) := by decide +kernel
theorem dX10_drop_7 : decode cX10_drop 7 = .ok (.ldc 92, 2) := by decide +kernel
theorem dX10_drop_9 : decode cX10_drop 9 = .ok (.ireturn, 1) := by decide +kernel
theorem dX10_drop_10 : decode cX10_drop 10 = .ok (.aload_n 0, 1) := by decide +kernel
theorem dX10_drop_11 : decode cX10_drop 11 = .ok (.getfield 11, 3) := by decide +kernel
theorem dX10_drop_14 : decode cX10_drop 14 = .ok (.iload_n 1, 1) := by decide +kernel
theorem dX10_drop_15 : decode cX10_drop 15 = .ok (.aaload, 1) := by decide +kernel
theorem dX10_drop_16 : decode cX10_drop 16 = .ok (.getfield 106, 3) := by decide +kernel
theorem dX10_drop_19 : decode cX10_drop 19 = .ok (.ifCond .ne 9, 3) := by decide +kernel
theorem dX10_drop_22 : decode cX10_drop 22 = .ok (.aload_n 0, 1) := by decide +kernel
theorem dX10_drop_23 : decode cX10_drop 23 = .ok (.iconst 1, 1) := by decide +kernel
theorem dX10_drop_24 : decode cX10_drop 24 = .ok (.invokevirtual 93, 3) := by decide +kernel
theorem dX10_drop_27 : decode cX10_drop 27 = .ok (.ireturn, 1) := by decide +kernel
theorem dX10_drop_28 : decode cX10_drop 28 = .ok (.aload_n 0, 1) := by decide +kernel
theorem dX10_drop_29 : decode cX10_drop 29 = .ok (.getfield 11, 3) := by decide +kernel
theorem dX10_drop_32 : decode cX10_drop 32 = .ok (.iload_n 1, 1) := by decide +kernel
theorem dX10_drop_33 : decode cX10_drop 33 = .ok (.aaload, 1) := by decide +kernel
theorem dX10_drop_34 : decode cX10_drop 34 = .ok (.iconst 0, 1) := by decide +kernel
theorem dX10_drop_35 : decode cX10_drop 35 = .ok (.putfield 106, 3) := by decide +kernel
theorem dX10_drop_38 : decode cX10_drop 38 = .ok (.aload_n 0, 1) := by decide +kernel
theorem dX10_drop_39 : decode cX10_drop 39 = .ok (.aload_n 0, 1) := by decide +kernel
theorem dX10_drop_40 : decode cX10_drop 40 = .ok (.getfield 11, 3) := by decide +kernel
theorem dX10_drop_43 : decode cX10_drop 43 = .ok (.iload_n 1, 1) := by decide +kernel
theorem dX10_drop_44 : decode cX10_drop 44 = .ok (.aaload, 1) := by decide +kernel
theorem dX10_drop_45 : decode cX10_drop 45 = .ok (.getfield 125, 3) := by decide +kernel
theorem dX10_drop_48 : decode cX10_drop 48 = .ok (.invokevirtual 101, 3) := by decide +kernel
theorem dX10_drop_51 : decode cX10_drop 51 = .ok (.ireturn, 1) := by decide +kernel
theorem dX10_copy_0 : decode cX10_copy 0 = .ok (.iload_n 1, 1) := by decide +kernel
theorem dX10_copy_1 : decode cX10_copy 1 = .ok (.invokestatic 84, 3) := by decide +kernel
theorem dX10_copy_4 : decode cX10_copy 4 = .ok (.ifCond .eq 10, 3) := by decide +kernel
theorem dX10_copy_7 : decode cX10_copy 7 = .ok (.iload_n 3, 1) := by decide +kernel
theorem dX10_copy_8 : decode cX10_copy 8 = .ok (.invokestatic 84, 3) := by decide +kernel
theorem dX10_copy_11 : decode cX10_copy 11 = .ok (.ifCond .ne 6, 3) := by decide +kernel
theorem dX10_copy_14 : decode cX10_copy 14 = .ok (.ldc 92, 2) := by decide +kernel
theorem dX10_copy_16 : decode cX10_copy 16 = .ok (.ireturn, 1) := by decide +kernel
theorem dX10_copy_17 : decode cX10_copy 17 = .ok (.aload_n 0, 1) := by decide +kernel
theorem dX10_copy_18 : decode cX10_copy 18 = .ok (.getfield 11, 3) := by decide +kernel
theorem dX10_copy_21 : decode cX10_copy 21 = .ok (.iload_n 1, 1) := by decide +kernel
theorem dX10_copy_22 : decode cX10_copy 22 = .ok (.aaload, 1) := by decide +kernel
theorem dX10_copy_23 : decode cX10_copy 23 = .ok (.astore 6, 2) := by decide +kernel
theorem dX10_copy_25 : decode cX10_copy 25 = .ok (.aload_n 0, 1) := by decide +kernel
theorem dX10_copy_26 : decode cX10_copy 26 = .ok (.getfield 11, 3) := by decide +kernel
theorem dX10_copy_29 : decode cX10_copy 29 = .ok (.iload_n 3, 1) := by decide +kernel
theorem dX10_copy_30 : decode cX10_copy 30 = .ok (.aaload, 1) := by decide +kernel
theorem dX10_copy_31 : decode cX10_copy 31 = .ok (.astore 7, 2) := by decide +kernel
theorem dX10_copy_33 : decode cX10_copy 33 = .ok (.aload 6, 2) := by decide +kernel
theorem dX10_copy_35 : decode cX10_copy 35 = .ok (.getfield 106, 3) := by decide +kernel
theorem dX10_copy_38 : decode cX10_copy 38 = .ok (.ifCond .eq 11, 3) := by decide +kernel
theorem dX10_copy_41 : decode cX10_copy 41 = .ok (.aload 7, 2) := by decide +kernel
theorem dX10_copy_43 : decode cX10_copy 43 = .ok (.getfield 106, 3) := by decide +kernel
theorem dX10_copy_46 : decode cX10_copy 46 = .ok (.ifCond .ne 9, 3) := by decide +kernel
theorem dX10_copy_49 : decode cX10_copy 49 = .ok (.aload_n 0, 1) := by decide +kernel
theorem dX10_copy_50 : decode cX10_copy 50 = .ok (.iconst 1, 1) := by decide +kernel
theorem dX10_copy_51 : decode cX10_copy 51 = .ok (.invokevirtual 93, 3) := by decide +kernel
theorem dX10_copy_54 : decode cX10_copy 54 = .ok (.ireturn, 1) := by decide +kernel
theorem dX10_copy_55 : decode cX10_copy 55 = .ok (.aload 6, 2) := by decide +kernel
theorem dX10_copy_57 : decode cX10_copy 57 = .ok (.getfield 128, 3) := by decide +kernel
theorem dX10_copy_60 : decode cX10_copy 60 = .ok (.aload 7, 2) := by decide +kernel
theorem dX10_copy_62 : decode cX10_copy 62 = .ok (.getfield 128, 3) := by decide +kernel
theorem dX10_copy_65 : decode cX10_copy 65 = .ok (.if_icmp .eq 9, 3) := by decide +kernel
theorem dX10_copy_68 : decode cX10_copy 68 = .ok (.aload_n 0, 1) := by decide +kernel
theorem dX10_copy_69 : decode cX10_copy 69 = .ok (.iconst 5, 1) := by decide +kernel
theorem dX10_copy_70 : decode cX10_copy 70 = .ok (.invokevirtual 93, 3) := by decide +kernel
theorem dX10_copy_73 : decode cX10_copy 73 = .ok (.ireturn, 1) := by decide +kernel
theorem dX10_copy_74 : decode cX10_copy 74 = .ok (.aload 6, 2) := by decide +kernel
theorem dX10_copy_76 : decode cX10_copy 76 = .ok (.iload_n 2, 1) := by decide +kernel
theorem dX10_copy_77 : decode cX10_copy 77 = .ok (.iload 5, 2) := by decide +kernel
theorem dX10_copy_79 : decode cX10_copy 79 = .ok (.invokevirtual 110, 3) := by decide +kernel
theorem dX10_copy_82 : decode cX10_copy 82 = .ok (.ifCond .eq 15, 3) := by decide +kernel
theorem dX10_copy_85 : decode cX10_copy 85 = .ok (.aload 7, 2) := by decide +kernel
theorem dX10_copy_87 : decode cX10_copy 87 = .ok (.iload 4, 2) := by decide +kernel
theorem dX10_copy_89 : decode cX10_copy 89 = .ok (.iload 5, 2) := by decide +kernel
theorem dX10_copy_91 : decode cX10_copy 91 = .ok (.invokevirtual 110, 3) := by decide +kernel
theorem dX10_copy_94 : decode cX10_copy 94 = .ok (.ifCond .ne 9, 3) := by decide +kernel
theorem dX10_copy_97 : decode cX10_copy 97 = .ok (.aload_n 0, 1) := by decide +kernel
theorem dX10_copy_98 : decode cX10_copy 98 = .ok (.iconst 2, 1) := by decide +kernel
theorem dX10_copy_99 : decode cX10_copy 99 = .ok (.invokevirtual 93, 3) := by decide +kernel
theorem dX10_copy_102 : decode cX10_copy 102 = .ok (.ireturn, 1) := by decide +kernel
theorem dX10_copy_103 : decode cX10_copy 103 = .ok (.aload 6, 2) := by decide +kernel
theorem dX10_copy_105 : decode cX10_copy 105 = .ok (.getfield 113, 3) := by decide +kernel
theorem dX10_copy_108 : decode cX10_copy 108 = .ok (.iload_n 2, 1) := by decide +kernel
theorem dX10_copy_109 : decode cX10_copy 109 = .ok (.aload 7, 2) := by decide +kernel
theorem dX10_copy_111 : decode cX10_copy 111 = .ok (.getfield 113, 3) := by decide +kernel
theorem dX10_copy_114 : decode cX10_copy 114 = .ok (.iload 4, 2) := by decide +kernel
theorem dX10_copy_116 : decode cX10_copy 116 = .ok (.iload 5, 2) := by decide +kernel
theorem dX10_copy_118 : decode cX10_copy 118 = .ok (.invokestatic 131, 3) := by decide +kernel
theorem dX10_copy_121 : decode cX10_copy 121 = .ok (.aload_n 0, 1) := by decide +kernel
theorem dX10_copy_122 : decode cX10_copy 122 = .ok (.iload 5, 2) := by decide +kernel
theorem dX10_copy_124 : decode cX10_copy 124 = .ok (.invokevirtual 101, 3) := by decide +kernel
theorem dX10_copy_127 : decode cX10_copy 127 = .ok (.ireturn, 1) := by decide +kernel
theorem dX10_plant_0 : decode cX10_plant 0 = .ok (.iload_n 1, 1) := by decide +kernel
theorem dX10_plant_1 : decode cX10_plant 1 = .ok (.invokestatic 84, 3) := by decide +kernel
theorem dX10_plant_4 : decode cX10_plant 4 = .ok (.ifCond .eq 11, 3) := by decide +kernel
theorem dX10_plant_7 : decode cX10_plant 7 = .ok (.iload_n 3, 1) := by decide +kernel
theorem dX10_plant_8 : decode cX10_plant 8 = .ok (.iconst 5, 1) := by decide +kernel
theorem dX10_plant_9 : decode cX10_plant 9 = .ok (.invokestatic 88, 3) := by decide +kernel
theorem dX10_plant_12 : decode cX10_plant 12 = .ok (.ifCond .ne 6, 3) := by decide +kernel
theorem dX10_plant_15 : decode cX10_plant 15 = .ok (.ldc 92, 2) := by decide +kernel
theorem dX10_plant_17 : decode cX10_plant 17 = .ok (.ireturn, 1) := by decide +kernel
theorem dX10_plant_18 : decode cX10_plant 18 = .ok (.aload_n 0, 1) := by decide +kernel
theorem dX10_plant_19 : decode cX10_plant 19 = .ok (.getfield 137, 3) := by decide +kernel
theorem dX10_plant_22 : decode cX10_plant 22 = .ok (.bipush 40, 2) := by decide +kernel
theorem dX10_plant_24 : decode cX10_plant 24 = .ok (.if_icmp .lt 6, 3) := by decide +kernel
theorem dX10_plant_27 : decode cX10_plant 27 = .ok (.ldc 140, 2) := by decide +kernel
theorem dX10_plant_29 : decode cX10_plant 29 = .ok (.ireturn, 1) := by decide +kernel
theorem dX10_plant_30 : decode cX10_plant 30 = .ok (.aload_n 0, 1) := by decide +kernel
theorem dX10_plant_31 : decode cX10_plant 31 = .ok (.getfield 11, 3) := by decide +kernel
theorem dX10_plant_34 : decode cX10_plant 34 = .ok (.iload_n 1, 1) := by decide +kernel
theorem dX10_plant_35 : decode cX10_plant 35 = .ok (.aaload, 1) := by decide +kernel
theorem dX10_plant_36 : decode cX10_plant 36 = .ok (.astore 4, 2) := by decide +kernel
theorem dX10_plant_38 : decode cX10_plant 38 = .ok (.aload 4, 2) := by decide +kernel
theorem dX10_plant_40 : decode cX10_plant 40 = .ok (.getfield 106, 3) := by decide +kernel
theorem dX10_plant_43 : decode cX10_plant 43 = .ok (.ifCond .ne 9, 3) := by decide +kernel
theorem dX10_plant_46 : decode cX10_plant 46 = .ok (.aload_n 0, 1) := by decide +kernel
theorem dX10_plant_47 : decode cX10_plant 47 = .ok (.iconst 1, 1) := by decide +kernel
theorem dX10_plant_48 : decode cX10_plant 48 = .ok (.invokevirtual 93, 3) := by decide +kernel
theorem dX10_plant_51 : decode cX10_plant 51 = .ok (.ireturn, 1) := by decide +kernel
theorem dX10_plant_52 : decode cX10_plant 52 = .ok (.aload 4, 2) := by decide +kernel
theorem dX10_plant_54 : decode cX10_plant 54 = .ok (.iload_n 2, 1) := by decide +kernel
theorem dX10_plant_55 : decode cX10_plant 55 = .ok (.iconst 2, 1) := by decide +kernel
theorem dX10_plant_56 : decode cX10_plant 56 = .ok (.invokevirtual 110, 3) := by decide +kernel
theorem dX10_plant_59 : decode cX10_plant 59 = .ok (.ifCond .ne 9, 3) := by decide +kernel
theorem dX10_plant_62 : decode cX10_plant 62 = .ok (.aload_n 0, 1) := by decide +kernel
theorem dX10_plant_63 : decode cX10_plant 63 = .ok (.iconst 2, 1) := by decide +kernel
theorem dX10_plant_64 : decode cX10_plant 64 = .ok (.invokevirtual 93, 3) := by decide +kernel
theorem dX10_plant_67 : decode cX10_plant 67 = .ok (.ireturn, 1) := by decide +kernel
theorem dX10_plant_68 : decode cX10_plant 68 = .ok (.aload 4, 2) := by decide +kernel
theorem dX10_plant_70 : decode cX10_plant 70 = .ok (.getfield 113, 3) := by decide +kernel
theorem dX10_plant_73 : decode cX10_plant 73 = .ok (.iload_n 2, 1) := by decide +kernel
theorem dX10_plant_74 : decode cX10_plant 74 = .ok (.laload, 1) := by decide +kernel
theorem dX10_plant_75 : decode cX10_plant 75 = .ok (.lstore 5, 2) := by decide +kernel
theorem dX10_plant_77 : decode cX10_plant 77 = .ok (.aload 4, 2) := by decide +kernel
theorem dX10_plant_79 : decode cX10_plant 79 = .ok (.getfield 113, 3) := by decide +kernel
theorem dX10_plant_82 : decode cX10_plant 82 = .ok (.iload_n 2, 1) := by decide +kernel
theorem dX10_plant_83 : decode cX10_plant 83 = .ok (.iconst 1, 1) := by decide +kernel
theorem dX10_plant_84 : decode cX10_plant 84 = .ok (.iadd, 1) := by decide +kernel
theorem dX10_plant_85 : decode cX10_plant 85 = .ok (.laload, 1) := by decide +kernel
theorem dX10_plant_86 : decode cX10_plant 86 = .ok (.lstore 7, 2) := by decide +kernel
theorem dX10_plant_88 : decode cX10_plant 88 = .ok (.lload 5, 2) := by decide +kernel
theorem dX10_plant_90 : decode cX10_plant 90 = .ok (.invokestatic 141, 3) := by decide +kernel
theorem dX10_plant_93 : decode cX10_plant 93 = .ok (.ifCond .eq 11, 3) := by decide +kernel
theorem dX10_plant_96 : decode cX10_plant 96 = .ok (.lload 7, 2) := by decide +kernel
theorem dX10_plant_98 : decode cX10_plant 98 = .ok (.invokestatic 141, 3) := by decide +kernel
theorem dX10_plant_101 : decode cX10_plant 101 = .ok (.ifCond .ne 6, 3) := by decide +kernel
theorem dX10_plant_104 : decode cX10_plant 104 = .ok (.ldc 92, 2) := by decide +kernel
theorem dX10_plant_106 : decode cX10_plant 106 = .ok (.ireturn, 1) := by decide +kernel
theorem dX10_plant_107 : decode cX10_plant 107 = .ok (.aload_n 0, 1) := by decide +kernel
theorem dX10_plant_108 : decode cX10_plant 108 = .ok (.getfield 137, 3) := by decide +kernel
theorem dX10_plant_111 : decode cX10_plant 111 = .ok (.istore 9, 2) := by decide +kernel
theorem dX10_plant_113 : decode cX10_plant 113 = .ok (.aload_n 0, 1) := by decide +kernel
theorem dX10_plant_114 : decode cX10_plant 114 = .ok (.iload 9, 2) := by decide +kernel
theorem dX10_plant_116 : decode cX10_plant 116 = .ok (.invokevirtual 145, 3) := by decide +kernel
theorem dX10_plant_119 : decode cX10_plant 119 = .ok (.aload_n 0, 1) := by decide +kernel
theorem dX10_plant_120 : decode cX10_plant 120 = .ok (.getfield 18, 3) := by decide +kernel
theorem dX10_plant_123 : decode cX10_plant 123 = .ok (.iload 9, 2) := by decide +kernel
theorem dX10_plant_125 : decode cX10_plant 125 = .ok (.aaload, 1) := by decide +kernel
theorem dX10_plant_126 : decode cX10_plant 126 = .ok (.lload 5, 2) := by decide +kernel
theorem dX10_plant_128 : decode cX10_plant 128 = .ok (.l2i, 1) := by decide +kernel
theorem dX10_plant_129 : decode cX10_plant 129 = .ok (.lload 7, 2) := by decide +kernel
theorem dX10_plant_131 : decode cX10_plant 131 = .ok (.l2i, 1) := by decide +kernel
theorem dX10_plant_132 : decode cX10_plant 132 = .ok (.iload_n 3, 1) := by decide +kernel
theorem dX10_plant_133 : decode cX10_plant 133 = .ok (.aload_n 0, 1) := by decide +kernel
theorem dX10_plant_134 : decode cX10_plant 134 = .ok (.getfield 39, 3) := by decide +kernel
theorem dX10_plant_137 : decode cX10_plant 137 = .ok (.invokevirtual 148, 3) := by decide +kernel
theorem dX10_plant_140 : decode cX10_plant 140 = .ok (.aload_n 0, 1) := by decide +kernel
theorem dX10_plant_141 : decode cX10_plant 141 = .ok (.iload 9, 2) := by decide +kernel
theorem dX10_plant_143 : decode cX10_plant 143 = .ok (.iconst 1, 1) := by decide +kernel
theorem dX10_plant_144 : decode cX10_plant 144 = .ok (.iadd, 1) := by decide +kernel
theorem dX10_plant_145 : decode cX10_plant 145 = .ok (.putfield 137, 3) := by decide +kernel
theorem dX10_plant_148 : decode cX10_plant 148 = .ok (.aload_n 0, 1) := by decide +kernel
theorem dX10_plant_149 : decode cX10_plant 149 = .ok (.invokevirtual 152, 3) := by decide +kernel
theorem dX10_plant_152 : decode cX10_plant 152 = .ok (.aload_n 0, 1) := by decide +kernel
theorem dX10_plant_153 : decode cX10_plant 153 = .ok (.iload 9, 2) := by decide +kernel
theorem dX10_plant_155 : decode cX10_plant 155 = .ok (.invokevirtual 101, 3) := by decide +kernel
theorem dX10_plant_158 : decode cX10_plant 158 = .ok (.ireturn, 1) := by decide +kernel
theorem dX10_move_0 : decode cX10_move 0 = .ok (.aload_n 0, 1) := by decide +kernel
theorem dX10_move_1 : decode cX10_move 1 = .ok (.iload_n 1, 1) := by decide +kernel
theorem dX10_move_2 : decode cX10_move 2 = .ok (.invokevirtual 155, 3) := by decide +kernel
theorem dX10_move_5 : decode cX10_move 5 = .ok (.ifCond .ne 6, 3) := by decide +kernel
theorem dX10_move_8 : decode cX10_move 8 = .ok (.ldc 92, 2) := by decide +kernel
theorem dX10_move_10 : decode cX10_move 10 = .ok (.ireturn, 1) := by decide +kernel
theorem dX10_move_11 : decode cX10_move 11 = .ok (.aload_n 0, 1) := by decide +kernel
theorem dX10_move_12 : decode cX10_move 12 = .ok (.getfield 18, 3) := by decide +kernel
theorem dX10_move_15 : decode cX10_move 15 = .ok (.iload_n 1, 1) := by decide +kernel
theorem dX10_move_16 : decode cX10_move 16 = .ok (.aaload, 1) := by decide +kernel
theorem dX10_move_17 : decode cX10_move 17 = .ok (.astore 4, 2) := by decide +kernel
theorem dX10_move_19 : decode cX10_move 19 = .ok (.aload 4, 2) := by decide +kernel
theorem dX10_move_21 : decode cX10_move 21 = .ok (.getfield 158, 3) := by decide +kernel
theorem dX10_move_24 : decode cX10_move 24 = .ok (.ifCond .ne 9, 3) := by decide +kernel
theorem dX10_move_27 : decode cX10_move 27 = .ok (.aload_n 0, 1) := by decide +kernel
theorem dX10_move_28 : decode cX10_move 28 = .ok (.iconst 1, 1) := by decide +kernel
theorem dX10_move_29 : decode cX10_move 29 = .ok (.invokevirtual 93, 3) := by decide +kernel
theorem dX10_move_32 : decode cX10_move 32 = .ok (.ireturn, 1) := by decide +kernel
theorem dX10_move_33 : decode cX10_move 33 = .ok (.aload 4, 2) := by decide +kernel
theorem dX10_move_35 : decode cX10_move 35 = .ok (.getfield 159, 3) := by decide +kernel
theorem dX10_move_38 : decode cX10_move 38 = .ok (.i2l, 1) := by decide +kernel
theorem dX10_move_39 : decode cX10_move 39 = .ok (.iload_n 2, 1) := by decide +kernel
theorem dX10_move_40 : decode cX10_move 40 = .ok (.i2l, 1) := by decide +kernel
theorem dX10_move_41 : decode cX10_move 41 = .ok (.ladd, 1) := by decide +kernel
theorem dX10_move_42 : decode cX10_move 42 = .ok (.lstore 5, 2) := by decide +kernel
theorem dX10_move_44 : decode cX10_move 44 = .ok (.aload 4, 2) := by decide +kernel
theorem dX10_move_46 : decode cX10_move 46 = .ok (.getfield 162, 3) := by decide +kernel
theorem dX10_move_49 : decode cX10_move 49 = .ok (.i2l, 1) := by decide +kernel
theorem dX10_move_50 : decode cX10_move 50 = .ok (.iload_n 3, 1) := by decide +kernel
theorem dX10_move_51 : decode cX10_move 51 = .ok (.i2l, 1) := by decide +kernel
theorem dX10_move_52 : decode cX10_move 52 = .ok (.ladd, 1) := by decide +kernel
theorem dX10_move_53 : decode cX10_move 53 = .ok (.lstore 7, 2) := by decide +kernel
theorem dX10_move_55 : decode cX10_move 55 = .ok (.lload 5, 2) := by decide +kernel
theorem dX10_move_57 : decode cX10_move 57 = .ok (.invokestatic 141, 3) := by decide +kernel
theorem dX10_move_60 : decode cX10_move 60 = .ok (.ifCond .eq 11, 3) := by decide +kernel
theorem dX10_move_63 : decode cX10_move 63 = .ok (.lload 7, 2) := by decide +kernel
theorem dX10_move_65 : decode cX10_move 65 = .ok (.invokestatic 141, 3) := by decide +kernel
theorem dX10_move_68 : decode cX10_move 68 = .ok (.ifCond .ne 6, 3) := by decide +kernel
theorem dX10_move_71 : decode cX10_move 71 = .ok (.ldc 92, 2) := by decide +kernel
theorem dX10_move_73 : decode cX10_move 73 = .ok (.ireturn, 1) := by decide +kernel
theorem dX10_move_74 : decode cX10_move 74 = .ok (.aload_n 0, 1) := by decide +kernel
theorem dX10_move_75 : decode cX10_move 75 = .ok (.iload_n 1, 1) := by decide +kernel
theorem dX10_move_76 : decode cX10_move 76 = .ok (.invokevirtual 145, 3) := by decide +kernel
theorem dX10_move_79 : decode cX10_move 79 = .ok (.aload 4, 2) := by decide +kernel
theorem dX10_move_81 : decode cX10_move 81 = .ok (.lload 5, 2) := by decide +kernel
theorem dX10_move_83 : decode cX10_move 83 = .ok (.l2i, 1) := by decide +kernel
theorem dX10_move_84 : decode cX10_move 84 = .ok (.putfield 159, 3) := by decide +kernel
theorem dX10_move_87 : decode cX10_move 87 = .ok (.aload 4, 2) := by decide +kernel
theorem dX10_move_89 : decode cX10_move 89 = .ok (.lload 7, 2) := by decide +kernel
theorem dX10_move_91 : decode cX10_move 91 = .ok (.l2i, 1) := by decide +kernel
theorem dX10_move_92 : decode cX10_move 92 = .ok (.putfield 162, 3) := by decide +kernel
theorem dX10_move_95 : decode cX10_move 95 = .ok (.aload_n 0, 1) := by decide +kernel
theorem dX10_move_96 : decode cX10_move 96 = .ok (.invokevirtual 152, 3) := by decide +kernel
theorem dX10_move_99 : decode cX10_move 99 = .ok (.aload_n 0, 1) := by decide +kernel
theorem dX10_move_100 : decode cX10_move 100 = .ok (.iconst 1, 1) := by decide +kernel
theorem dX10_move_101 : decode cX10_move 101 = .ok (.invokevirtual 101, 3) := by decide +kernel
theorem dX10_move_104 : decode cX10_move 104 = .ok (.ireturn, 1) := by decide +kernel
theorem dX10_away_0 : decode cX10_away 0 = .ok (.aload_n 0, 1) := by decide +kernel
theorem dX10_away_1 : decode cX10_away 1 = .ok (.iload_n 1, 1) := by decide +kernel
theorem dX10_away_2 : decode cX10_away 2 = .ok (.invokevirtual 155, 3) := by decide +kernel
theorem dX10_away_5 : decode cX10_away 5 = .ok (.ifCond .ne 6, 3) := by decide +kernel
theorem dX10_away_8 : decode cX10_away 8 = .ok (.ldc 92, 2) := by decide +kernel
theorem dX10_away_10 : decode cX10_away 10 = .ok (.ireturn, 1) := by decide +kernel
theorem dX10_away_11 : decode cX10_away 11 = .ok (.aload_n 0, 1) := by decide +kernel
theorem dX10_away_12 : decode cX10_away 12 = .ok (.getfield 18, 3) := by decide +kernel
theorem dX10_away_15 : decode cX10_away 15 = .ok (.iload_n 1, 1) := by decide +kernel
theorem dX10_away_16 : decode cX10_away 16 = .ok (.aaload, 1) := by decide +kernel
theorem dX10_away_17 : decode cX10_away 17 = .ok (.getfield 158, 3) := by decide +kernel
theorem dX10_away_20 : decode cX10_away 20 = .ok (.ifCond .ne 9, 3) := by decide +kernel
theorem dX10_away_23 : decode cX10_away 23 = .ok (.aload_n 0, 1) := by decide +kernel
theorem dX10_away_24 : decode cX10_away 24 = .ok (.iconst 1, 1) := by decide +kernel
theorem dX10_away_25 : decode cX10_away 25 = .ok (.invokevirtual 93, 3) := by decide +kernel
theorem dX10_away_28 : decode cX10_away 28 = .ok (.ireturn, 1) := by decide +kernel
theorem dX10_away_29 : decode cX10_away 29 = .ok (.aload_n 0, 1) := by decide +kernel
theorem dX10_away_30 : decode cX10_away 30 = .ok (.iload_n 1, 1) := by decide +kernel
theorem dX10_away_31 : decode cX10_away 31 = .ok (.invokevirtual 145, 3) := by decide +kernel
theorem dX10_away_34 : decode cX10_away 34 = .ok (.aload_n 0, 1) := by decide +kernel
theorem dX10_away_35 : decode cX10_away 35 = .ok (.getfield 18, 3) := by decide +kernel
theorem dX10_away_38 : decode cX10_away 38 = .ok (.iload_n 1, 1) := by decide +kernel
theorem dX10_away_39 : decode cX10_away 39 = .ok (.aaload, 1) := by decide +kernel
theorem dX10_away_40 : decode cX10_away 40 = .ok (.iconst 0, 1) := by decide +kernel
theorem dX10_away_41 : decode cX10_away 41 = .ok (.putfield 158, 3) := by decide +kernel
theorem dX10_away_44 : decode cX10_away 44 = .ok (.aload_n 0, 1) := by decide +kernel
theorem dX10_away_45 : decode cX10_away 45 = .ok (.invokevirtual 152, 3) := by decide +kernel
theorem dX10_away_48 : decode cX10_away 48 = .ok (.aload_n 0, 1) := by decide +kernel
theorem dX10_away_49 : decode cX10_away 49 = .ok (.aload_n 0, 1) := by decide +kernel
theorem dX10_away_50 : decode cX10_away 50 = .ok (.invokevirtual 165, 3) := by decide +kernel
theorem dX10_away_53 : decode cX10_away 53 = .ok (.getfield 169, 3) := by decide +kernel
theorem dX10_away_56 : decode cX10_away 56 = .ok (.invokevirtual 101, 3) := by decide +kernel
theorem dX10_away_59 : decode cX10_away 59 = .ok (.ireturn, 1) := by decide +kernel
theorem dX10_colour_0 : decode cX10_colour 0 = .ok (.aload_n 0, 1) := by decide +kernel
theorem dX10_colour_1 : decode cX10_colour 1 = .ok (.iload_n 1, 1) := by decide +kernel
theorem dX10_colour_2 : decode cX10_colour 2 = .ok (.invokevirtual 155, 3) := by decide +kernel
theorem dX10_colour_5 : decode cX10_colour 5 = .ok (.ifCond .eq 11, 3) := by decide +kernel
theorem dX10_colour_8 : decode cX10_colour 8 = .ok (.iload_n 2, 1) := by decide +kernel
theorem dX10_colour_9 : decode cX10_colour 9 = .ok (.iconst 3, 1) := by decide +kernel
theorem dX10_colour_10 : decode cX10_colour 10 = .ok (.invokestatic 88, 3) := by decide +kernel
theorem dX10_colour_13 : decode cX10_colour 13 = .ok (.ifCond .ne 6, 3) := by decide +kernel
theorem dX10_colour_16 : decode cX10_colour 16 = .ok (.ldc 92, 2) := by decide +kernel
theorem dX10_colour_18 : decode cX10_colour 18 = .ok (.ireturn, 1) := by decide +kernel
theorem dX10_colour_19 : decode cX10_colour 19 = .ok (.aload_n 0, 1) := by decide +kernel
theorem dX10_colour_20 : decode cX10_colour 20 = .ok (.getfield 18, 3) := by decide +kernel
theorem dX10_colour_23 : decode cX10_colour 23 = .ok (.iload_n 1, 1) := by decide +kernel
theorem dX10_colour_24 : decode cX10_colour 24 = .ok (.aaload, 1) := by decide +kernel
theorem dX10_colour_25 : decode cX10_colour 25 = .ok (.astore_n 3, 1) := by decide +kernel
theorem dX10_colour_26 : decode cX10_colour 26 = .ok (.aload_n 3, 1) := by decide +kernel
theorem dX10_colour_27 : decode cX10_colour 27 = .ok (.getfield 158, 3) := by decide +kernel
theorem dX10_colour_30 : decode cX10_colour 30 = .ok (.ifCond .ne 9, 3) := by decide +kernel
theorem dX10_colour_33 : decode cX10_colour 33 = .ok (.aload_n 0, 1) := by decide +kernel
theorem dX10_colour_34 : decode cX10_colour 34 = .ok (.iconst 1, 1) := by decide +kernel
theorem dX10_colour_35 : decode cX10_colour 35 = .ok (.invokevirtual 93, 3) := by decide +kernel
theorem dX10_colour_38 : decode cX10_colour 38 = .ok (.ireturn, 1) := by decide +kernel
theorem dX10_colour_39 : decode cX10_colour 39 = .ok (.aload_n 3, 1) := by decide +kernel
theorem dX10_colour_40 : decode cX10_colour 40 = .ok (.getfield 172, 3) := by decide +kernel
theorem dX10_colour_43 : decode cX10_colour 43 = .ok (.iconst 4, 1) := by decide +kernel
theorem dX10_colour_44 : decode cX10_colour 44 = .ok (.if_icmp .eq 9, 3) := by decide +kernel
theorem dX10_colour_47 : decode cX10_colour 47 = .ok (.aload_n 0, 1) := by decide +kernel
theorem dX10_colour_48 : decode cX10_colour 48 = .ok (.iconst 3, 1) := by decide +kernel
theorem dX10_colour_49 : decode cX10_colour 49 = .ok (.invokevirtual 93, 3) := by decide +kernel
theorem dX10_colour_52 : decode cX10_colour 52 = .ok (.ireturn, 1) := by decide +kernel
theorem dX10_colour_53 : decode cX10_colour 53 = .ok (.aload_n 3, 1) := by decide +kernel
theorem dX10_colour_54 : decode cX10_colour 54 = .ok (.getfield 175, 3) := by decide +kernel
theorem dX10_colour_57 : decode cX10_colour 57 = .ok (.istore 4, 2) := by decide +kernel
theorem dX10_colour_59 : decode cX10_colour 59 = .ok (.aload_n 0, 1) := by decide +kernel
theorem dX10_colour_60 : decode cX10_colour 60 = .ok (.iload_n 1, 1) := by decide +kernel
theorem dX10_colour_61 : decode cX10_colour 61 = .ok (.invokevirtual 145, 3) := by decide +kernel
theorem dX10_colour_64 : decode cX10_colour 64 = .ok (.aload_n 3, 1) := by decide +kernel
theorem dX10_colour_65 : decode cX10_colour 65 = .ok (.iload_n 2, 1) := by decide +kernel
theorem dX10_colour_66 : decode cX10_colour 66 = .ok (.aload_n 0, 1) := by decide +kernel
theorem dX10_colour_67 : decode cX10_colour 67 = .ok (.getfield 39, 3) := by decide +kernel
theorem dX10_colour_70 : decode cX10_colour 70 = .ok (.invokevirtual 178, 3) := by decide +kernel
theorem dX10_colour_73 : decode cX10_colour 73 = .ok (.aload_n 0, 1) := by decide +kernel
theorem dX10_colour_74 : decode cX10_colour 74 = .ok (.invokevirtual 152, 3) := by decide +kernel
theorem dX10_colour_77 : decode cX10_colour 77 = .ok (.aload_n 0, 1) := by decide +kernel
theorem dX10_colour_78 : decode cX10_colour 78 = .ok (.iload 4, 2) := by decide +kernel
theorem dX10_colour_80 : decode cX10_colour 80 = .ok (.invokevirtual 101, 3) := by decide +kernel
theorem dX10_colour_83 : decode cX10_colour 83 = .ok (.ireturn, 1) := by decide +kernel
theorem dX10_told_0 : decode cX10_told 0 = .ok (.aload_n 0, 1) := by decide +kernel
theorem dX10_told_1 : decode cX10_told 1 = .ok (.iload_n 1, 1) := by decide +kernel
theorem dX10_told_2 : decode cX10_told 2 = .ok (.invokevirtual 155, 3) := by decide +kernel
theorem dX10_told_5 : decode cX10_told 5 = .ok (.ifCond .eq 11, 3) := by decide +kernel
theorem dX10_told_8 : decode cX10_told 8 = .ok (.iload_n 2, 1) := by decide +kernel
theorem dX10_told_9 : decode cX10_told 9 = .ok (.iconst 4, 1) := by decide +kernel
theorem dX10_told_10 : decode cX10_told 10 = .ok (.invokestatic 88, 3) := by decide +kernel
theorem dX10_told_13 : decode cX10_told 13 = .ok (.ifCond .ne 6, 3) := by decide +kernel
theorem dX10_told_16 : decode cX10_told 16 = .ok (.ldc 92, 2) := by decide +kernel
theorem dX10_told_18 : decode cX10_told 18 = .ok (.ireturn, 1) := by decide +kernel
theorem dX10_told_19 : decode cX10_told 19 = .ok (.aload_n 0, 1) := by decide +kernel
theorem dX10_told_20 : decode cX10_told 20 = .ok (.getfield 18, 3) := by decide +kernel
theorem dX10_told_23 : decode cX10_told 23 = .ok (.iload_n 1, 1) := by decide +kernel
theorem dX10_told_24 : decode cX10_told 24 = .ok (.aaload, 1) := by decide +kernel
theorem dX10_told_25 : decode cX10_told 25 = .ok (.astore_n 3, 1) := by decide +kernel
theorem dX10_told_26 : decode cX10_told 26 = .ok (.aload_n 3, 1) := by decide +kernel
theorem dX10_told_27 : decode cX10_told 27 = .ok (.getfield 158, 3) := by decide +kernel
theorem dX10_told_30 : decode cX10_told 30 = .ok (.ifCond .ne 9, 3) := by decide +kernel
theorem dX10_told_33 : decode cX10_told 33 = .ok (.aload_n 0, 1) := by decide +kernel
theorem dX10_told_34 : decode cX10_told 34 = .ok (.iconst 1, 1) := by decide +kernel
theorem dX10_told_35 : decode cX10_told 35 = .ok (.invokevirtual 93, 3) := by decide +kernel
theorem dX10_told_38 : decode cX10_told 38 = .ok (.ireturn, 1) := by decide +kernel
theorem dX10_told_39 : decode cX10_told 39 = .ok (.iload_n 2, 1) := by decide +kernel
theorem dX10_told_40 : decode cX10_told 40 = .ok (.tableswitch 55 0 2 #[28, 37, 46], 28) := by decide +kernel
theorem dX10_told_68 : decode cX10_told 68 = .ok (.aload_n 0, 1) := by decide +kernel
theorem dX10_told_69 : decode cX10_told 69 = .ok (.aload_n 3, 1) := by decide +kernel
theorem dX10_told_70 : decode cX10_told 70 = .ok (.getfield 159, 3) := by decide +kernel
theorem dX10_told_73 : decode cX10_told 73 = .ok (.invokevirtual 101, 3) := by decide +kernel
theorem dX10_told_76 : decode cX10_told 76 = .ok (.ireturn, 1) := by decide +kernel
theorem dX10_told_77 : decode cX10_told 77 = .ok (.aload_n 0, 1) := by decide +kernel
theorem dX10_told_78 : decode cX10_told 78 = .ok (.aload_n 3, 1) := by decide +kernel
theorem dX10_told_79 : decode cX10_told 79 = .ok (.getfield 162, 3) := by decide +kernel
theorem dX10_told_82 : decode cX10_told 82 = .ok (.invokevirtual 101, 3) := by decide +kernel
theorem dX10_told_85 : decode cX10_told 85 = .ok (.ireturn, 1) := by decide +kernel
theorem dX10_told_86 : decode cX10_told 86 = .ok (.aload_n 0, 1) := by decide +kernel
theorem dX10_told_87 : decode cX10_told 87 = .ok (.aload_n 3, 1) := by decide +kernel
theorem dX10_told_88 : decode cX10_told 88 = .ok (.getfield 172, 3) := by decide +kernel
theorem dX10_told_91 : decode cX10_told 91 = .ok (.invokevirtual 101, 3) := by decide +kernel
theorem dX10_told_94 : decode cX10_told 94 = .ok (.ireturn, 1) := by decide +kernel
theorem dX10_told_95 : decode cX10_told 95 = .ok (.aload_n 0, 1) := by decide +kernel
theorem dX10_told_96 : decode cX10_told 96 = .ok (.aload_n 0, 1) := by decide +kernel
theorem dX10_told_97 : decode cX10_told 97 = .ok (.invokevirtual 182, 3) := by decide +kernel
theorem dX10_told_100 : decode cX10_told 100 = .ok (.aload_n 0, 1) := by decide +kernel
theorem dX10_told_101 : decode cX10_told 101 = .ok (.invokevirtual 165, 3) := by decide +kernel
theorem dX10_told_104 : decode cX10_told 104 = .ok (.iload_n 1, 1) := by decide +kernel
theorem dX10_told_105 : decode cX10_told 105 = .ok (.invokevirtual 186, 3) := by decide +kernel
theorem dX10_told_108 : decode cX10_told 108 = .ok (.invokevirtual 189, 3) := by decide +kernel
theorem dX10_told_111 : decode cX10_told 111 = .ok (.invokevirtual 101, 3) := by decide +kernel
theorem dX10_told_114 : decode cX10_told 114 = .ok (.ireturn, 1) := by decide +kernel
theorem dX10_is_0 : decode cX10_is 0 = .ok (.aload_n 0, 1) := by decide +kernel
theorem dX10_is_1 : decode cX10_is 1 = .ok (.iload_n 1, 1) := by decide +kernel
theorem dX10_is_2 : decode cX10_is 2 = .ok (.invokevirtual 155, 3) := by decide +kernel
theorem dX10_is_5 : decode cX10_is 5 = .ok (.ifCond .eq 11, 3) := by decide +kernel
theorem dX10_is_8 : decode cX10_is 8 = .ok (.iload_n 2, 1) := by decide +kernel
theorem dX10_is_9 : decode cX10_is 9 = .ok (.iconst 5, 1) := by decide +kernel
theorem dX10_is_10 : decode cX10_is 10 = .ok (.invokestatic 88, 3) := by decide +kernel
theorem dX10_is_13 : decode cX10_is 13 = .ok (.ifCond .ne 6, 3) := by decide +kernel
theorem dX10_is_16 : decode cX10_is 16 = .ok (.ldc 92, 2) := by decide +kernel
theorem dX10_is_18 : decode cX10_is 18 = .ok (.ireturn, 1) := by decide +kernel
theorem dX10_is_19 : decode cX10_is 19 = .ok (.aload_n 0, 1) := by decide +kernel
theorem dX10_is_20 : decode cX10_is 20 = .ok (.getfield 18, 3) := by decide +kernel
theorem dX10_is_23 : decode cX10_is 23 = .ok (.iload_n 1, 1) := by decide +kernel
theorem dX10_is_24 : decode cX10_is 24 = .ok (.aaload, 1) := by decide +kernel
theorem dX10_is_25 : decode cX10_is 25 = .ok (.getfield 158, 3) := by decide +kernel
theorem dX10_is_28 : decode cX10_is 28 = .ok (.ifCond .ne 9, 3) := by decide +kernel
theorem dX10_is_31 : decode cX10_is 31 = .ok (.aload_n 0, 1) := by decide +kernel
theorem dX10_is_32 : decode cX10_is 32 = .ok (.iconst 1, 1) := by decide +kernel
theorem dX10_is_33 : decode cX10_is 33 = .ok (.invokevirtual 93, 3) := by decide +kernel
theorem dX10_is_36 : decode cX10_is 36 = .ok (.ireturn, 1) := by decide +kernel
theorem dX10_is_37 : decode cX10_is 37 = .ok (.aload_n 0, 1) := by decide +kernel
theorem dX10_is_38 : decode cX10_is 38 = .ok (.aload_n 0, 1) := by decide +kernel
theorem dX10_is_39 : decode cX10_is 39 = .ok (.getfield 18, 3) := by decide +kernel
theorem dX10_is_42 : decode cX10_is 42 = .ok (.iload_n 1, 1) := by decide +kernel
theorem dX10_is_43 : decode cX10_is 43 = .ok (.aaload, 1) := by decide +kernel
theorem dX10_is_44 : decode cX10_is 44 = .ok (.iload_n 2, 1) := by decide +kernel
theorem dX10_is_45 : decode cX10_is 45 = .ok (.invokevirtual 192, 3) := by decide +kernel
theorem dX10_is_48 : decode cX10_is 48 = .ok (.ifCond .eq 7, 3) := by decide +kernel
theorem dX10_is_51 : decode cX10_is 51 = .ok (.iconst 1, 1) := by decide +kernel
theorem dX10_is_52 : decode cX10_is 52 = .ok (.goto 4, 3) := by decide +kernel
theorem dX10_is_55 : decode cX10_is 55 = .ok (.iconst 0, 1) := by decide +kernel
theorem dX10_is_56 : decode cX10_is 56 = .ok (.invokevirtual 101, 3) := by decide +kernel
theorem dX10_is_59 : decode cX10_is 59 = .ok (.ireturn, 1) := by decide +kernel
theorem dX10_ask_0 : decode cX10_ask 0 = .ok (.aload_n 0, 1) := by decide +kernel
theorem dX10_ask_1 : decode cX10_ask 1 = .ok (.iload_n 1, 1) := by decide +kernel
theorem dX10_ask_2 : decode cX10_ask 2 = .ok (.invokevirtual 155, 3) := by decide +kernel
theorem dX10_ask_5 : decode cX10_ask 5 = .ok (.ifCond .eq 11, 3) := by decide +kernel
theorem dX10_ask_8 : decode cX10_ask 8 = .ok (.iload_n 2, 1) := by decide +kernel
theorem dX10_ask_9 : decode cX10_ask 9 = .ok (.iconst 4, 1) := by decide +kernel
theorem dX10_ask_10 : decode cX10_ask 10 = .ok (.invokestatic 88, 3) := by decide +kernel
theorem dX10_ask_13 : decode cX10_ask 13 = .ok (.ifCond .ne 6, 3) := by decide +kernel
theorem dX10_ask_16 : decode cX10_ask 16 = .ok (.ldc 92, 2) := by decide +kernel
theorem dX10_ask_18 : decode cX10_ask 18 = .ok (.ireturn, 1) := by decide +kernel
theorem dX10_ask_19 : decode cX10_ask 19 = .ok (.aload_n 0, 1) := by decide +kernel
theorem dX10_ask_20 : decode cX10_ask 20 = .ok (.getfield 35, 3) := by decide +kernel
theorem dX10_ask_23 : decode cX10_ask 23 = .ok (.iconst 0, 1) := by decide +kernel
theorem dX10_ask_24 : decode cX10_ask 24 = .ok (.putfield 195, 3) := by decide +kernel
theorem dX10_ask_27 : decode cX10_ask 27 = .ok (.aload_n 0, 1) := by decide +kernel
theorem dX10_ask_28 : decode cX10_ask 28 = .ok (.getfield 18, 3) := by decide +kernel
theorem dX10_ask_31 : decode cX10_ask 31 = .ok (.iload_n 1, 1) := by decide +kernel
theorem dX10_ask_32 : decode cX10_ask 32 = .ok (.aaload, 1) := by decide +kernel
theorem dX10_ask_33 : decode cX10_ask 33 = .ok (.getfield 158, 3) := by decide +kernel
theorem dX10_ask_36 : decode cX10_ask 36 = .ok (.ifCond .ne 9, 3) := by decide +kernel
theorem dX10_ask_39 : decode cX10_ask 39 = .ok (.aload_n 0, 1) := by decide +kernel
theorem dX10_ask_40 : decode cX10_ask 40 = .ok (.iconst 1, 1) := by decide +kernel
theorem dX10_ask_41 : decode cX10_ask 41 = .ok (.invokevirtual 93, 3) := by decide +kernel
theorem dX10_ask_44 : decode cX10_ask 44 = .ok (.ireturn, 1) := by decide +kernel
theorem dX10_ask_45 : decode cX10_ask 45 = .ok (.aload_n 0, 1) := by decide +kernel
theorem dX10_ask_46 : decode cX10_ask 46 = .ok (.aload_n 0, 1) := by decide +kernel
theorem dX10_ask_47 : decode cX10_ask 47 = .ok (.getfield 18, 3) := by decide +kernel
theorem dX10_ask_50 : decode cX10_ask 50 = .ok (.iload_n 1, 1) := by decide +kernel
theorem dX10_ask_51 : decode cX10_ask 51 = .ok (.aaload, 1) := by decide +kernel
theorem dX10_ask_52 : decode cX10_ask 52 = .ok (.iload_n 2, 1) := by decide +kernel
theorem dX10_ask_53 : decode cX10_ask 53 = .ok (.aload_n 0, 1) := by decide +kernel
theorem dX10_ask_54 : decode cX10_ask 54 = .ok (.getfield 35, 3) := by decide +kernel
theorem dX10_ask_57 : decode cX10_ask 57 = .ok (.invokevirtual 198, 3) := by decide +kernel
theorem dX10_ask_60 : decode cX10_ask 60 = .ok (.invokevirtual 101, 3) := by decide +kernel
theorem dX10_ask_63 : decode cX10_ask 63 = .ok (.ireturn, 1) := by decide +kernel
theorem dX10_trace_0 : decode cX10_trace 0 = .ok (.iload_n 1, 1) := by decide +kernel
theorem dX10_trace_1 : decode cX10_trace 1 = .ok (.aload_n 0, 1) := by decide +kernel
theorem dX10_trace_2 : decode cX10_trace 2 = .ok (.getfield 35, 3) := by decide +kernel
theorem dX10_trace_5 : decode cX10_trace 5 = .ok (.getfield 195, 3) := by decide +kernel
theorem dX10_trace_8 : decode cX10_trace 8 = .ok (.invokestatic 88, 3) := by decide +kernel
theorem dX10_trace_11 : decode cX10_trace 11 = .ok (.ifCond .eq 15, 3) := by decide +kernel
theorem dX10_trace_14 : decode cX10_trace 14 = .ok (.aload_n 0, 1) := by decide +kernel
theorem dX10_trace_15 : decode cX10_trace 15 = .ok (.getfield 35, 3) := by decide +kernel
theorem dX10_trace_18 : decode cX10_trace 18 = .ok (.getfield 202, 3) := by decide +kernel
theorem dX10_trace_21 : decode cX10_trace 21 = .ok (.iload_n 1, 1) := by decide +kernel
theorem dX10_trace_22 : decode cX10_trace 22 = .ok (.iaload, 1) := by decide +kernel
theorem dX10_trace_23 : decode cX10_trace 23 = .ok (.goto 5, 3) := by decide +kernel
theorem dX10_trace_26 : decode cX10_trace 26 = .ok (.ldc 206, 2) := by decide +kernel
theorem dX10_trace_28 : decode cX10_trace 28 = .ok (.ireturn, 1) := by decide +kernel
theorem dX10_undo_0 : decode cX10_undo 0 = .ok (.aload_n 0, 1) := by decide +kernel
theorem dX10_undo_1 : decode cX10_undo 1 = .ok (.getfield 26, 3) := by decide +kernel
theorem dX10_undo_4 : decode cX10_undo 4 = .ok (.getfield 207, 3) := by decide +kernel
theorem dX10_undo_7 : decode cX10_undo 7 = .ok (.ifCond .eq 18, 3) := by decide +kernel
theorem dX10_undo_10 : decode cX10_undo 10 = .ok (.aload_n 0, 1) := by decide +kernel
theorem dX10_undo_11 : decode cX10_undo 11 = .ok (.getfield 26, 3) := by decide +kernel
theorem dX10_undo_14 : decode cX10_undo 14 = .ok (.getfield 210, 3) := by decide +kernel
theorem dX10_undo_17 : decode cX10_undo 17 = .ok (.bipush 40, 2) := by decide +kernel
theorem dX10_undo_19 : decode cX10_undo 19 = .ok (.invokestatic 88, 3) := by decide +kernel
theorem dX10_undo_22 : decode cX10_undo 22 = .ok (.ifCond .ne 6, 3) := by decide +kernel
theorem dX10_undo_25 : decode cX10_undo 25 = .ok (.ldc 213, 2) := by decide +kernel
theorem dX10_undo_27 : decode cX10_undo 27 = .ok (.ireturn, 1) := by decide +kernel
theorem dX10_undo_28 : decode cX10_undo 28 = .ok (.aload_n 0, 1) := by decide +kernel
theorem dX10_undo_29 : decode cX10_undo 29 = .ok (.getfield 26, 3) := by decide +kernel
theorem dX10_undo_32 : decode cX10_undo 32 = .ok (.iconst 0, 1) := by decide +kernel
theorem dX10_undo_33 : decode cX10_undo 33 = .ok (.putfield 207, 3) := by decide +kernel
theorem dX10_undo_36 : decode cX10_undo 36 = .ok (.aload_n 0, 1) := by decide +kernel
theorem dX10_undo_37 : decode cX10_undo 37 = .ok (.getfield 18, 3) := by decide +kernel
theorem dX10_undo_40 : decode cX10_undo 40 = .ok (.aload_n 0, 1) := by decide +kernel
theorem dX10_undo_41 : decode cX10_undo 41 = .ok (.getfield 26, 3) := by decide +kernel
theorem dX10_undo_44 : decode cX10_undo 44 = .ok (.getfield 210, 3) := by decide +kernel
theorem dX10_undo_47 : decode cX10_undo 47 = .ok (.aaload, 1) := by decide +kernel
theorem dX10_undo_48 : decode cX10_undo 48 = .ok (.aload_n 0, 1) := by decide +kernel
theorem dX10_undo_49 : decode cX10_undo 49 = .ok (.getfield 26, 3) := by decide +kernel
theorem dX10_undo_52 : decode cX10_undo 52 = .ok (.getfield 214, 3) := by decide +kernel
theorem dX10_undo_55 : decode cX10_undo 55 = .ok (.invokevirtual 218, 3) := by decide +kernel
theorem dX10_undo_58 : decode cX10_undo 58 = .ok (.aload_n 0, 1) := by decide +kernel
theorem dX10_undo_59 : decode cX10_undo 59 = .ok (.aload_n 0, 1) := by decide +kernel
theorem dX10_undo_60 : decode cX10_undo 60 = .ok (.getfield 26, 3) := by decide +kernel
theorem dX10_undo_63 : decode cX10_undo 63 = .ok (.getfield 222, 3) := by decide +kernel
theorem dX10_undo_66 : decode cX10_undo 66 = .ok (.putfield 137, 3) := by decide +kernel
theorem dX10_undo_69 : decode cX10_undo 69 = .ok (.aload_n 0, 1) := by decide +kernel
theorem dX10_undo_70 : decode cX10_undo 70 = .ok (.invokevirtual 152, 3) := by decide +kernel
theorem dX10_undo_73 : decode cX10_undo 73 = .ok (.iconst 1, 1) := by decide +kernel
theorem dX10_undo_74 : decode cX10_undo 74 = .ok (.ireturn, 1) := by decide +kernel
theorem dX10_line_0 : decode cX10_line 0 = .ok (.iload_n 1, 1) := by decide +kernel
theorem dX10_line_1 : decode cX10_line 1 = .ok (.i2l, 1) := by decide +kernel
theorem dX10_line_2 : decode cX10_line 2 = .ok (.ldc2_w 223, 3) := by decide +kernel
theorem dX10_line_5 : decode cX10_line 5 = .ok (.invokestatic 225, 3) := by decide +kernel
theorem dX10_line_8 : decode cX10_line 8 = .ok (.ifCond .eq 25, 3) := by decide +kernel
theorem dX10_line_11 : decode cX10_line 11 = .ok (.iload_n 2, 1) := by decide +kernel
theorem dX10_line_12 : decode cX10_line 12 = .ok (.i2l, 1) := by decide +kernel
theorem dX10_line_13 : decode cX10_line 13 = .ok (.ldc2_w 223, 3) := by decide +kernel
theorem dX10_line_16 : decode cX10_line 16 = .ok (.invokestatic 225, 3) := by decide +kernel
theorem dX10_line_19 : decode cX10_line 19 = .ok (.ifCond .eq 14, 3) := by decide +kernel
theorem dX10_line_22 : decode cX10_line 22 = .ok (.iload_n 3, 1) := by decide +kernel
theorem dX10_line_23 : decode cX10_line 23 = .ok (.i2l, 1) := by decide +kernel
theorem dX10_line_24 : decode cX10_line 24 = .ok (.ldc2_w 223, 3) := by decide +kernel
theorem dX10_line_27 : decode cX10_line 27 = .ok (.invokestatic 225, 3) := by decide +kernel
theorem dX10_line_30 : decode cX10_line 30 = .ok (.ifCond .ne 6, 3) := by decide +kernel
theorem dX10_line_33 : decode cX10_line 33 = .ok (.ldc 92, 2) := by decide +kernel
theorem dX10_line_35 : decode cX10_line 35 = .ok (.ireturn, 1) := by decide +kernel
theorem dX10_line_36 : decode cX10_line 36 = .ok (.iload_n 1, 1) := by decide +kernel
theorem dX10_line_37 : decode cX10_line 37 = .ok (.ifCond .ne 10, 3) := by decide +kernel
theorem dX10_line_40 : decode cX10_line 40 = .ok (.iload_n 2, 1) := by decide +kernel
theorem dX10_line_41 : decode cX10_line 41 = .ok (.ifCond .ne 6, 3) := by decide +kernel
theorem dX10_line_44 : decode cX10_line 44 = .ok (.ldc 213, 2) := by decide +kernel
theorem dX10_line_46 : decode cX10_line 46 = .ok (.ireturn, 1) := by decide +kernel
theorem dX10_line_47 : decode cX10_line 47 = .ok (.aload_n 0, 1) := by decide +kernel
theorem dX10_line_48 : decode cX10_line 48 = .ok (.getfield 45, 3) := by decide +kernel
theorem dX10_line_51 : decode cX10_line 51 = .ok (.iload_n 1, 1) := by decide +kernel
theorem dX10_line_52 : decode cX10_line 52 = .ok (.iload_n 2, 1) := by decide +kernel
theorem dX10_line_53 : decode cX10_line 53 = .ok (.iload_n 3, 1) := by decide +kernel
theorem dX10_line_54 : decode cX10_line 54 = .ok (.invokevirtual 229, 3) := by decide +kernel
theorem dX10_line_57 : decode cX10_line 57 = .ok (.iconst 1, 1) := by decide +kernel
theorem dX10_line_58 : decode cX10_line 58 = .ok (.ireturn, 1) := by decide +kernel
theorem dX10_through_0 : decode cX10_through 0 = .ok (.aload_n 0, 1) := by decide +kernel
theorem dX10_through_1 : decode cX10_through 1 = .ok (.iload_n 1, 1) := by decide +kernel
theorem dX10_through_2 : decode cX10_through 2 = .ok (.invokevirtual 155, 3) := by decide +kernel
theorem dX10_through_5 : decode cX10_through 5 = .ok (.ifCond .eq 11, 3) := by decide +kernel
theorem dX10_through_8 : decode cX10_through 8 = .ok (.aload_n 0, 1) := by decide +kernel
theorem dX10_through_9 : decode cX10_through 9 = .ok (.iload_n 2, 1) := by decide +kernel
theorem dX10_through_10 : decode cX10_through 10 = .ok (.invokevirtual 155, 3) := by decide +kernel
theorem dX10_through_13 : decode cX10_through 13 = .ok (.ifCond .ne 6, 3) := by decide +kernel
theorem dX10_through_16 : decode cX10_through 16 = .ok (.ldc 92, 2) := by decide +kernel
theorem dX10_through_18 : decode cX10_through 18 = .ok (.ireturn, 1) := by decide +kernel
theorem dX10_through_19 : decode cX10_through 19 = .ok (.aload_n 0, 1) := by decide +kernel
theorem dX10_through_20 : decode cX10_through 20 = .ok (.getfield 18, 3) := by decide +kernel
theorem dX10_through_23 : decode cX10_through 23 = .ok (.iload_n 1, 1) := by decide +kernel
theorem dX10_through_24 : decode cX10_through 24 = .ok (.aaload, 1) := by decide +kernel
theorem dX10_through_25 : decode cX10_through 25 = .ok (.astore_n 3, 1) := by decide +kernel
theorem dX10_through_26 : decode cX10_through 26 = .ok (.aload_n 0, 1) := by decide +kernel
theorem dX10_through_27 : decode cX10_through 27 = .ok (.getfield 18, 3) := by decide +kernel
theorem dX10_through_30 : decode cX10_through 30 = .ok (.iload_n 2, 1) := by decide +kernel
theorem dX10_through_31 : decode cX10_through 31 = .ok (.aaload, 1) := by decide +kernel
theorem dX10_through_32 : decode cX10_through 32 = .ok (.astore 4, 2) := by decide +kernel
theorem dX10_through_34 : decode cX10_through 34 = .ok (.aload_n 3, 1) := by decide +kernel
theorem dX10_through_35 : decode cX10_through 35 = .ok (.getfield 158, 3) := by decide +kernel
theorem dX10_through_38 : decode cX10_through 38 = .ok (.ifCond .eq 11, 3) := by decide +kernel
theorem dX10_through_41 : decode cX10_through 41 = .ok (.aload 4, 2) := by decide +kernel
theorem dX10_through_43 : decode cX10_through 43 = .ok (.getfield 158, 3) := by decide +kernel
theorem dX10_through_46 : decode cX10_through 46 = .ok (.ifCond .ne 9, 3) := by decide +kernel
theorem dX10_through_49 : decode cX10_through 49 = .ok (.aload_n 0, 1) := by decide +kernel
theorem dX10_through_50 : decode cX10_through 50 = .ok (.iconst 1, 1) := by decide +kernel
theorem dX10_through_51 : decode cX10_through 51 = .ok (.invokevirtual 93, 3) := by decide +kernel
theorem dX10_through_54 : decode cX10_through 54 = .ok (.ireturn, 1) := by decide +kernel
theorem dX10_through_55 : decode cX10_through 55 = .ok (.aload_n 3, 1) := by decide +kernel
theorem dX10_through_56 : decode cX10_through 56 = .ok (.getfield 159, 3) := by decide +kernel
theorem dX10_through_59 : decode cX10_through 59 = .ok (.aload 4, 2) := by decide +kernel
theorem dX10_through_61 : decode cX10_through 61 = .ok (.getfield 159, 3) := by decide +kernel
theorem dX10_through_64 : decode cX10_through 64 = .ok (.if_icmp .ne 18, 3) := by decide +kernel
theorem dX10_through_67 : decode cX10_through 67 = .ok (.aload_n 3, 1) := by decide +kernel
theorem dX10_through_68 : decode cX10_through 68 = .ok (.getfield 162, 3) := by decide +kernel
theorem dX10_through_71 : decode cX10_through 71 = .ok (.aload 4, 2) := by decide +kernel
theorem dX10_through_73 : decode cX10_through 73 = .ok (.getfield 162, 3) := by decide +kernel
theorem dX10_through_76 : decode cX10_through 76 = .ok (.if_icmp .ne 6, 3) := by decide +kernel
theorem dX10_through_79 : decode cX10_through 79 = .ok (.ldc 213, 2) := by decide +kernel
theorem dX10_through_81 : decode cX10_through 81 = .ok (.ireturn, 1) := by decide +kernel
theorem dX10_through_82 : decode cX10_through 82 = .ok (.aload_n 0, 1) := by decide +kernel
theorem dX10_through_83 : decode cX10_through 83 = .ok (.getfield 45, 3) := by decide +kernel
theorem dX10_through_86 : decode cX10_through 86 = .ok (.aload_n 3, 1) := by decide +kernel
theorem dX10_through_87 : decode cX10_through 87 = .ok (.getfield 159, 3) := by decide +kernel
theorem dX10_through_90 : decode cX10_through 90 = .ok (.aload_n 3, 1) := by decide +kernel
theorem dX10_through_91 : decode cX10_through 91 = .ok (.getfield 162, 3) := by decide +kernel
theorem dX10_through_94 : decode cX10_through 94 = .ok (.aload 4, 2) := by decide +kernel
theorem dX10_through_96 : decode cX10_through 96 = .ok (.getfield 159, 3) := by decide +kernel
theorem dX10_through_99 : decode cX10_through 99 = .ok (.aload 4, 2) := by decide +kernel
theorem dX10_through_101 : decode cX10_through 101 = .ok (.getfield 162, 3) := by decide +kernel
theorem dX10_through_104 : decode cX10_through 104 = .ok (.invokevirtual 232, 3) := by decide +kernel
theorem dX10_through_107 : decode cX10_through 107 = .ok (.aload_n 0, 1) := by decide +kernel
theorem dX10_through_108 : decode cX10_through 108 = .ok (.iconst 1, 1) := by decide +kernel
theorem dX10_through_109 : decode cX10_through 109 = .ok (.invokevirtual 101, 3) := by decide +kernel
theorem dX10_through_112 : decode cX10_through 112 = .ok (.ireturn, 1) := by decide +kernel
theorem dX10_lineAt_0 : decode cX10_lineAt 0 = .ok (.iload_n 1, 1) := by decide +kernel
theorem dX10_lineAt_1 : decode cX10_lineAt 1 = .ok (.tableswitch 51 0 2 #[27, 35, 43], 27) := by decide +kernel
theorem dX10_lineAt_28 : decode cX10_lineAt 28 = .ok (.aload_n 0, 1) := by decide +kernel
theorem dX10_lineAt_29 : decode cX10_lineAt 29 = .ok (.getfield 45, 3) := by decide +kernel
theorem dX10_lineAt_32 : decode cX10_lineAt 32 = .ok (.getfield 236, 3) := by decide +kernel
theorem dX10_lineAt_35 : decode cX10_lineAt 35 = .ok (.ireturn, 1) := by decide +kernel
theorem dX10_lineAt_36 : decode cX10_lineAt 36 = .ok (.aload_n 0, 1) := by decide +kernel
theorem dX10_lineAt_37 : decode cX10_lineAt 37 = .ok (.getfield 45, 3) := by decide +kernel
theorem dX10_lineAt_40 : decode cX10_lineAt 40 = .ok (.getfield 239, 3) := by decide +kernel
theorem dX10_lineAt_43 : decode cX10_lineAt 43 = .ok (.ireturn, 1) := by decide +kernel
theorem dX10_lineAt_44 : decode cX10_lineAt 44 = .ok (.aload_n 0, 1) := by decide +kernel
theorem dX10_lineAt_45 : decode cX10_lineAt 45 = .ok (.getfield 45, 3) := by decide +kernel
theorem dX10_lineAt_48 : decode cX10_lineAt 48 = .ok (.getfield 242, 3) := by decide +kernel
theorem dX10_lineAt_51 : decode cX10_lineAt 51 = .ok (.ireturn, 1) := by decide +kernel
theorem dX10_lineAt_52 : decode cX10_lineAt 52 = .ok (.ldc 92, 2) := by decide +kernel
theorem dX10_lineAt_54 : decode cX10_lineAt 54 = .ok (.ireturn, 1) := by decide +kernel
theorem dX10_side_0 : decode cX10_side 0 = .ok (.iload_n 1, 1) := by decide +kernel
theorem dX10_side_1 : decode cX10_side 1 = .ok (.iconst 3, 1) := by decide +kernel
theorem dX10_side_2 : decode cX10_side 2 = .ok (.invokestatic 88, 3) := by decide +kernel
theorem dX10_side_5 : decode cX10_side 5 = .ok (.ifCond .eq 11, 3) := by decide +kernel
theorem dX10_side_8 : decode cX10_side 8 = .ok (.iload_n 2, 1) := by decide +kernel
theorem dX10_side_9 : decode cX10_side 9 = .ok (.iconst 3, 1) := by decide +kernel
theorem dX10_side_10 : decode cX10_side 10 = .ok (.invokestatic 88, 3) := by decide +kernel
theorem dX10_side_13 : decode cX10_side 13 = .ok (.ifCond .ne 6, 3) := by decide +kernel
theorem dX10_side_16 : decode cX10_side 16 = .ok (.ldc 92, 2) := by decide +kernel
theorem dX10_side_18 : decode cX10_side 18 = .ok (.ireturn, 1) := by decide +kernel
theorem dX10_side_19 : decode cX10_side 19 = .ok (.aload_n 0, 1) := by decide +kernel
theorem dX10_side_20 : decode cX10_side 20 = .ok (.invokevirtual 165, 3) := by decide +kernel
theorem dX10_side_23 : decode cX10_side 23 = .ok (.aload_n 0, 1) := by decide +kernel
theorem dX10_side_24 : decode cX10_side 24 = .ok (.getfield 45, 3) := by decide +kernel
theorem dX10_side_27 : decode cX10_side 27 = .ok (.iload_n 1, 1) := by decide +kernel
theorem dX10_side_28 : decode cX10_side 28 = .ok (.iload_n 2, 1) := by decide +kernel
theorem dX10_side_29 : decode cX10_side 29 = .ok (.invokevirtual 245, 3) := by decide +kernel
theorem dX10_side_32 : decode cX10_side 32 = .ok (.ireturn, 1) := by decide +kernel
theorem dX10_halves_0 : decode cX10_halves 0 = .ok (.iload_n 1, 1) := by decide +kernel
theorem dX10_halves_1 : decode cX10_halves 1 = .ok (.iconst 3, 1) := by decide +kernel
theorem dX10_halves_2 : decode cX10_halves 2 = .ok (.invokestatic 88, 3) := by decide +kernel
theorem dX10_halves_5 : decode cX10_halves 5 = .ok (.ifCond .ne 6, 3) := by decide +kernel
theorem dX10_halves_8 : decode cX10_halves 8 = .ok (.ldc 92, 2) := by decide +kernel
theorem dX10_halves_10 : decode cX10_halves 10 = .ok (.ireturn, 1) := by decide +kernel
theorem dX10_halves_11 : decode cX10_halves 11 = .ok (.aload_n 0, 1) := by decide +kernel
theorem dX10_halves_12 : decode cX10_halves 12 = .ok (.invokevirtual 165, 3) := by decide +kernel
theorem dX10_halves_15 : decode cX10_halves 15 = .ok (.aload_n 0, 1) := by decide +kernel
theorem dX10_halves_16 : decode cX10_halves 16 = .ok (.getfield 45, 3) := by decide +kernel
theorem dX10_halves_19 : decode cX10_halves 19 = .ok (.iload_n 1, 1) := by decide +kernel
theorem dX10_halves_20 : decode cX10_halves 20 = .ok (.invokevirtual 249, 3) := by decide +kernel
theorem dX10_halves_23 : decode cX10_halves 23 = .ok (.ifCond .eq 7, 3) := by decide +kernel
theorem dX10_halves_26 : decode cX10_halves 26 = .ok (.iconst 1, 1) := by decide +kernel
theorem dX10_halves_27 : decode cX10_halves 27 = .ok (.goto 4, 3) := by decide +kernel
theorem dX10_halves_30 : decode cX10_halves 30 = .ok (.iconst 0, 1) := by decide +kernel
theorem dX10_halves_31 : decode cX10_halves 31 = .ok (.ireturn, 1) := by decide +kernel
theorem dX10_furrow_0 : decode cX10_furrow 0 = .ok (.iload_n 1, 1) := by decide +kernel
theorem dX10_furrow_1 : decode cX10_furrow 1 = .ok (.ifCond .ge 6, 3) := by decide +kernel
theorem dX10_furrow_4 : decode cX10_furrow 4 = .ok (.ldc 92, 2) := by decide +kernel
theorem dX10_furrow_6 : decode cX10_furrow 6 = .ok (.ireturn, 1) := by decide +kernel
theorem dX10_furrow_7 : decode cX10_furrow 7 = .ok (.aload_n 0, 1) := by decide +kernel
theorem dX10_furrow_8 : decode cX10_furrow 8 = .ok (.invokevirtual 165, 3) := by decide +kernel
theorem dX10_furrow_11 : decode cX10_furrow 11 = .ok (.getfield 169, 3) := by decide +kernel
theorem dX10_furrow_14 : decode cX10_furrow 14 = .ok (.ifCond .ne 6, 3) := by decide +kernel
theorem dX10_furrow_17 : decode cX10_furrow 17 = .ok (.ldc 213, 2) := by decide +kernel
theorem dX10_furrow_19 : decode cX10_furrow 19 = .ok (.ireturn, 1) := by decide +kernel
theorem dX10_furrow_20 : decode cX10_furrow 20 = .ok (.iload_n 1, 1) := by decide +kernel
theorem dX10_furrow_21 : decode cX10_furrow 21 = .ok (.aload_n 0, 1) := by decide +kernel
theorem dX10_furrow_22 : decode cX10_furrow 22 = .ok (.invokevirtual 253, 3) := by decide +kernel
theorem dX10_furrow_25 : decode cX10_furrow 25 = .ok (.aload_n 0, 1) := by decide +kernel
theorem dX10_furrow_26 : decode cX10_furrow 26 = .ok (.getfield 52, 3) := by decide +kernel
theorem dX10_furrow_29 : decode cX10_furrow 29 = .ok (.invokevirtual 257, 3) := by decide +kernel
theorem dX10_furrow_32 : decode cX10_furrow 32 = .ok (.if_icmp .lt 5, 3) := by decide +kernel
theorem dX10_furrow_35 : decode cX10_furrow 35 = .ok (.iconst 0, 1) := by decide +kernel
theorem dX10_furrow_36 : decode cX10_furrow 36 = .ok (.ireturn, 1) := by decide +kernel
theorem dX10_furrow_37 : decode cX10_furrow 37 = .ok (.aload_n 0, 1) := by decide +kernel
theorem dX10_furrow_38 : decode cX10_furrow 38 = .ok (.getfield 59, 3) := by decide +kernel
theorem dX10_furrow_41 : decode cX10_furrow 41 = .ok (.aload_n 0, 1) := by decide +kernel
theorem dX10_furrow_42 : decode cX10_furrow 42 = .ok (.getfield 52, 3) := by decide +kernel
theorem dX10_furrow_45 : decode cX10_furrow 45 = .ok (.iload_n 1, 1) := by decide +kernel
theorem dX10_furrow_46 : decode cX10_furrow 46 = .ok (.aload_n 0, 1) := by decide +kernel
theorem dX10_furrow_47 : decode cX10_furrow 47 = .ok (.getfield 45, 3) := by decide +kernel
theorem dX10_furrow_50 : decode cX10_furrow 50 = .ok (.invokevirtual 261, 3) := by decide +kernel
theorem dX10_furrow_53 : decode cX10_furrow 53 = .ok (.iconst 1, 1) := by decide +kernel
theorem dX10_furrow_54 : decode cX10_furrow 54 = .ok (.ireturn, 1) := by decide +kernel
theorem dX10_furrows_0 : decode cX10_furrows 0 = .ok (.aload_n 0, 1) := by decide +kernel
theorem dX10_furrows_1 : decode cX10_furrows 1 = .ok (.invokevirtual 165, 3) := by decide +kernel
theorem dX10_furrows_4 : decode cX10_furrows 4 = .ok (.getfield 169, 3) := by decide +kernel
theorem dX10_furrows_7 : decode cX10_furrows 7 = .ok (.ifCond .ne 6, 3) := by decide +kernel
theorem dX10_furrows_10 : decode cX10_furrows 10 = .ok (.ldc 213, 2) := by decide +kernel
theorem dX10_furrows_12 : decode cX10_furrows 12 = .ok (.ireturn, 1) := by decide +kernel
theorem dX10_furrows_13 : decode cX10_furrows 13 = .ok (.aload_n 0, 1) := by decide +kernel
theorem dX10_furrows_14 : decode cX10_furrows 14 = .ok (.invokevirtual 253, 3) := by decide +kernel
theorem dX10_furrows_17 : decode cX10_furrows 17 = .ok (.aload_n 0, 1) := by decide +kernel
theorem dX10_furrows_18 : decode cX10_furrows 18 = .ok (.getfield 52, 3) := by decide +kernel
theorem dX10_furrows_21 : decode cX10_furrows 21 = .ok (.invokevirtual 257, 3) := by decide +kernel
theorem dX10_furrows_24 : decode cX10_furrows 24 = .ok (.ireturn, 1) := by decide +kernel
theorem dX10_depth_0 : decode cX10_depth 0 = .ok (.iload_n 1, 1) := by decide +kernel
theorem dX10_depth_1 : decode cX10_depth 1 = .ok (.i2l, 1) := by decide +kernel
theorem dX10_depth_2 : decode cX10_depth 2 = .ok (.ldc2_w 223, 3) := by decide +kernel
theorem dX10_depth_5 : decode cX10_depth 5 = .ok (.invokestatic 225, 3) := by decide +kernel
theorem dX10_depth_8 : decode cX10_depth 8 = .ok (.ifCond .eq 26, 3) := by decide +kernel
theorem dX10_depth_11 : decode cX10_depth 11 = .ok (.iload_n 2, 1) := by decide +kernel
theorem dX10_depth_12 : decode cX10_depth 12 = .ok (.i2l, 1) := by decide +kernel
theorem dX10_depth_13 : decode cX10_depth 13 = .ok (.ldc2_w 223, 3) := by decide +kernel
theorem dX10_depth_16 : decode cX10_depth 16 = .ok (.invokestatic 225, 3) := by decide +kernel
theorem dX10_depth_19 : decode cX10_depth 19 = .ok (.ifCond .eq 15, 3) := by decide +kernel
theorem dX10_depth_22 : decode cX10_depth 22 = .ok (.iload_n 3, 1) := by decide +kernel
theorem dX10_depth_23 : decode cX10_depth 23 = .ok (.iconst 1, 1) := by decide +kernel
theorem dX10_depth_24 : decode cX10_depth 24 = .ok (.if_icmp .lt 10, 3) := by decide +kernel
theorem dX10_depth_27 : decode cX10_depth 27 = .ok (.iload_n 3, 1) := by decide +kernel
theorem dX10_depth_28 : decode cX10_depth 28 = .ok (.sipush 1000, 3) := by decide +kernel
theorem dX10_depth_31 : decode cX10_depth 31 = .ok (.if_icmp .le 6, 3) := by decide +kernel
theorem dX10_depth_34 : decode cX10_depth 34 = .ok (.ldc 92, 2) := by decide +kernel
theorem dX10_depth_36 : decode cX10_depth 36 = .ok (.ireturn, 1) := by decide +kernel
theorem dX10_depth_37 : decode cX10_depth 37 = .ok (.aload_n 0, 1) := by decide +kernel
theorem dX10_depth_38 : decode cX10_depth 38 = .ok (.getfield 73, 3) := by decide +kernel
theorem dX10_depth_41 : decode cX10_depth 41 = .ok (.aload_n 0, 1) := by decide +kernel
theorem dX10_depth_42 : decode cX10_depth 42 = .ok (.invokevirtual 165, 3) := by decide +kernel
theorem dX10_depth_45 : decode cX10_depth 45 = .ok (.iload_n 1, 1) := by decide +kernel
theorem dX10_depth_46 : decode cX10_depth 46 = .ok (.i2l, 1) := by decide +kernel
theorem dX10_depth_47 : decode cX10_depth 47 = .ok (.iload_n 2, 1) := by decide +kernel
theorem dX10_depth_48 : decode cX10_depth 48 = .ok (.i2l, 1) := by decide +kernel
theorem dX10_depth_49 : decode cX10_depth 49 = .ok (.iload_n 3, 1) := by decide +kernel
theorem dX10_depth_50 : decode cX10_depth 50 = .ok (.i2l, 1) := by decide +kernel
theorem dX10_depth_51 : decode cX10_depth 51 = .ok (.iconst 0, 1) := by decide +kernel
theorem dX10_depth_52 : decode cX10_depth 52 = .ok (.invokevirtual 265, 3) := by decide +kernel
theorem dX10_depth_55 : decode cX10_depth 55 = .ok (.ireturn, 1) := by decide +kernel
theorem dX10_deepest_0 : decode cX10_deepest 0 = .ok (.iload_n 1, 1) := by decide +kernel
theorem dX10_deepest_1 : decode cX10_deepest 1 = .ok (.iconst 5, 1) := by decide +kernel
theorem dX10_deepest_2 : decode cX10_deepest 2 = .ok (.invokestatic 88, 3) := by decide +kernel
theorem dX10_deepest_5 : decode cX10_deepest 5 = .ok (.ifCond .ne 7, 3) := by decide +kernel
theorem dX10_deepest_8 : decode cX10_deepest 8 = .ok (.ldc2_w 104, 3) := by decide +kernel
theorem dX10_deepest_11 : decode cX10_deepest 11 = .ok (.lreturn, 1) := by decide +kernel
theorem dX10_deepest_12 : decode cX10_deepest 12 = .ok (.aload_n 0, 1) := by decide +kernel
theorem dX10_deepest_13 : decode cX10_deepest 13 = .ok (.invokevirtual 165, 3) := by decide +kernel
theorem dX10_deepest_16 : decode cX10_deepest 16 = .ok (.getfield 169, 3) := by decide +kernel
theorem dX10_deepest_19 : decode cX10_deepest 19 = .ok (.ifCond .ne 7, 3) := by decide +kernel
theorem dX10_deepest_22 : decode cX10_deepest 22 = .ok (.ldc2_w 269, 3) := by decide +kernel
theorem dX10_deepest_25 : decode cX10_deepest 25 = .ok (.lreturn, 1) := by decide +kernel
theorem dX10_deepest_26 : decode cX10_deepest 26 = .ok (.aload_n 0, 1) := by decide +kernel
theorem dX10_deepest_27 : decode cX10_deepest 27 = .ok (.getfield 52, 3) := by decide +kernel
theorem dX10_deepest_30 : decode cX10_deepest 30 = .ok (.getfield 169, 3) := by decide +kernel
theorem dX10_deepest_33 : decode cX10_deepest 33 = .ok (.bipush 12, 2) := by decide +kernel
theorem dX10_deepest_35 : decode cX10_deepest 35 = .ok (.if_icmp .le 7, 3) := by decide +kernel
theorem dX10_deepest_38 : decode cX10_deepest 38 = .ok (.ldc2_w 271, 3) := by decide +kernel
theorem dX10_deepest_41 : decode cX10_deepest 41 = .ok (.lreturn, 1) := by decide +kernel
theorem dX10_deepest_42 : decode cX10_deepest 42 = .ok (.aload_n 0, 1) := by decide +kernel
theorem dX10_deepest_43 : decode cX10_deepest 43 = .ok (.getfield 73, 3) := by decide +kernel
theorem dX10_deepest_46 : decode cX10_deepest 46 = .ok (.getfield 273, 3) := by decide +kernel
theorem dX10_deepest_49 : decode cX10_deepest 49 = .ok (.ifCond .ne 18, 3) := by decide +kernel
theorem dX10_deepest_52 : decode cX10_deepest 52 = .ok (.aload_n 0, 1) := by decide +kernel
theorem dX10_deepest_53 : decode cX10_deepest 53 = .ok (.getfield 73, 3) := by decide +kernel
theorem dX10_deepest_56 : decode cX10_deepest 56 = .ok (.aload_n 0, 1) := by decide +kernel
theorem dX10_deepest_57 : decode cX10_deepest 57 = .ok (.getfield 52, 3) := by decide +kernel
theorem dX10_deepest_60 : decode cX10_deepest 60 = .ok (.aload_n 0, 1) := by decide +kernel
theorem dX10_deepest_61 : decode cX10_deepest 61 = .ok (.invokevirtual 253, 3) := by decide +kernel
theorem dX10_deepest_64 : decode cX10_deepest 64 = .ok (.invokevirtual 276, 3) := by decide +kernel
theorem dX10_deepest_67 : decode cX10_deepest 67 = .ok (.aload_n 0, 1) := by decide +kernel
theorem dX10_deepest_68 : decode cX10_deepest 68 = .ok (.getfield 73, 3) := by decide +kernel
theorem dX10_deepest_71 : decode cX10_deepest 71 = .ok (.iload_n 1, 1) := by decide +kernel
theorem dX10_deepest_72 : decode cX10_deepest 72 = .ok (.invokevirtual 280, 3) := by decide +kernel
theorem dX10_deepest_75 : decode cX10_deepest 75 = .ok (.lreturn, 1) := by decide +kernel
theorem dX10_layer_0 : decode cX10_layer 0 = .ok (.iload_n 1, 1) := by decide +kernel
theorem dX10_layer_1 : decode cX10_layer 1 = .ok (.iconst 1, 1) := by decide +kernel
theorem dX10_layer_2 : decode cX10_layer 2 = .ok (.if_icmp .ge 6, 3) := by decide +kernel
theorem dX10_layer_5 : decode cX10_layer 5 = .ok (.ldc 92, 2) := by decide +kernel
theorem dX10_layer_7 : decode cX10_layer 7 = .ok (.ireturn, 1) := by decide +kernel
theorem dX10_layer_8 : decode cX10_layer 8 = .ok (.aload_n 0, 1) := by decide +kernel
theorem dX10_layer_9 : decode cX10_layer 9 = .ok (.invokevirtual 182, 3) := by decide +kernel
theorem dX10_layer_12 : decode cX10_layer 12 = .ok (.iload_n 1, 1) := by decide +kernel
theorem dX10_layer_13 : decode cX10_layer 13 = .ok (.invokevirtual 284, 3) := by decide +kernel
theorem dX10_layer_16 : decode cX10_layer 16 = .ok (.ireturn, 1) := by decide +kernel
theorem dX10_most_0 : decode cX10_most 0 = .ok (.iload_n 1, 1) := by decide +kernel
theorem dX10_most_1 : decode cX10_most 1 = .ok (.iconst 2, 1) := by decide +kernel
theorem dX10_most_2 : decode cX10_most 2 = .ok (.invokestatic 88, 3) := by decide +kernel
theorem dX10_most_5 : decode cX10_most 5 = .ok (.ifCond .ne 6, 3) := by decide +kernel
theorem dX10_most_8 : decode cX10_most 8 = .ok (.ldc 92, 2) := by decide +kernel
theorem dX10_most_10 : decode cX10_most 10 = .ok (.ireturn, 1) := by decide +kernel
theorem dX10_most_11 : decode cX10_most 11 = .ok (.iload_n 1, 1) := by decide +kernel
theorem dX10_most_12 : decode cX10_most 12 = .ok (.iconst 1, 1) := by decide +kernel
theorem dX10_most_13 : decode cX10_most 13 = .ok (.if_icmp .ne 13, 3) := by decide +kernel
theorem dX10_most_16 : decode cX10_most 16 = .ok (.aload_n 0, 1) := by decide +kernel
theorem dX10_most_17 : decode cX10_most 17 = .ok (.invokevirtual 253, 3) := by decide +kernel
theorem dX10_most_20 : decode cX10_most 20 = .ok (.getfield 287, 3) := by decide +kernel
theorem dX10_most_23 : decode cX10_most 23 = .ok (.goto 10, 3) := by decide +kernel
theorem dX10_most_26 : decode cX10_most 26 = .ok (.aload_n 0, 1) := by decide +kernel
theorem dX10_most_27 : decode cX10_most 27 = .ok (.invokevirtual 253, 3) := by decide +kernel
theorem dX10_most_30 : decode cX10_most 30 = .ok (.getfield 290, 3) := by decide +kernel
theorem dX10_most_33 : decode cX10_most 33 = .ok (.ireturn, 1) := by decide +kernel
theorem dX10_widest_0 : decode cX10_widest 0 = .ok (.iload_n 1, 1) := by decide +kernel
theorem dX10_widest_1 : decode cX10_widest 1 = .ok (.iconst 2, 1) := by decide +kernel
theorem dX10_widest_2 : decode cX10_widest 2 = .ok (.invokestatic 88, 3) := by decide +kernel
theorem dX10_widest_5 : decode cX10_widest 5 = .ok (.ifCond .ne 7, 3) := by decide +kernel
theorem dX10_widest_8 : decode cX10_widest 8 = .ok (.ldc2_w 104, 3) := by decide +kernel
theorem dX10_widest_11 : decode cX10_widest 11 = .ok (.lreturn, 1) := by decide +kernel
theorem dX10_widest_12 : decode cX10_widest 12 = .ok (.aload_n 0, 1) := by decide +kernel
theorem dX10_widest_13 : decode cX10_widest 13 = .ok (.invokevirtual 253, 3) := by decide +kernel
theorem dX10_widest_16 : decode cX10_widest 16 = .ok (.getfield 293, 3) := by decide +kernel
theorem dX10_widest_19 : decode cX10_widest 19 = .ok (.ifCond .ne 7, 3) := by decide +kernel
theorem dX10_widest_22 : decode cX10_widest 22 = .ok (.ldc2_w 269, 3) := by decide +kernel
theorem dX10_widest_25 : decode cX10_widest 25 = .ok (.lreturn, 1) := by decide +kernel
theorem dX10_widest_26 : decode cX10_widest 26 = .ok (.aload_n 0, 1) := by decide +kernel
theorem dX10_widest_27 : decode cX10_widest 27 = .ok (.getfield 80, 3) := by decide +kernel
theorem dX10_widest_30 : decode cX10_widest 30 = .ok (.getfield 294, 3) := by decide +kernel
theorem dX10_widest_33 : decode cX10_widest 33 = .ok (.ifCond .ne 18, 3) := by decide +kernel
theorem dX10_widest_36 : decode cX10_widest 36 = .ok (.aload_n 0, 1) := by decide +kernel
theorem dX10_widest_37 : decode cX10_widest 37 = .ok (.getfield 80, 3) := by decide +kernel
theorem dX10_widest_40 : decode cX10_widest 40 = .ok (.aload_n 0, 1) := by decide +kernel
theorem dX10_widest_41 : decode cX10_widest 41 = .ok (.invokevirtual 165, 3) := by decide +kernel
theorem dX10_widest_44 : decode cX10_widest 44 = .ok (.aload_n 0, 1) := by decide +kernel
theorem dX10_widest_45 : decode cX10_widest 45 = .ok (.getfield 59, 3) := by decide +kernel
theorem dX10_widest_48 : decode cX10_widest 48 = .ok (.invokevirtual 295, 3) := by decide +kernel
theorem dX10_widest_51 : decode cX10_widest 51 = .ok (.iload_n 1, 1) := by decide +kernel
theorem dX10_widest_52 : decode cX10_widest 52 = .ok (.ifCond .ne 13, 3) := by decide +kernel
theorem dX10_widest_55 : decode cX10_widest 55 = .ok (.aload_n 0, 1) := by decide +kernel
theorem dX10_widest_56 : decode cX10_widest 56 = .ok (.getfield 80, 3) := by decide +kernel
theorem dX10_widest_59 : decode cX10_widest 59 = .ok (.getfield 298, 3) := by decide +kernel
theorem dX10_widest_62 : decode cX10_widest 62 = .ok (.goto 10, 3) := by decide +kernel
theorem dX10_widest_65 : decode cX10_widest 65 = .ok (.aload_n 0, 1) := by decide +kernel
theorem dX10_widest_66 : decode cX10_widest 66 = .ok (.getfield 80, 3) := by decide +kernel
theorem dX10_widest_69 : decode cX10_widest 69 = .ok (.getfield 302, 3) := by decide +kernel
theorem dX10_widest_72 : decode cX10_widest 72 = .ok (.lreturn, 1) := by decide +kernel
theorem dX10_count_0 : decode cX10_count 0 = .ok (.iload_n 1, 1) := by decide +kernel
theorem dX10_count_1 : decode cX10_count 1 = .ok (.tableswitch 96 0 6 #[43, 51, 56, 61, 69, 78, 87], 43) := by decide +kernel
theorem dX10_count_44 : decode cX10_count 44 = .ok (.aload_n 0, 1) := by decide +kernel
theorem dX10_count_45 : decode cX10_count 45 = .ok (.invokevirtual 165, 3) := by decide +kernel
theorem dX10_count_48 : decode cX10_count 48 = .ok (.getfield 169, 3) := by decide +kernel
theorem dX10_count_51 : decode cX10_count 51 = .ok (.ireturn, 1) := by decide +kernel
theorem dX10_count_52 : decode cX10_count 52 = .ok (.aload_n 0, 1) := by decide +kernel
theorem dX10_count_53 : decode cX10_count 53 = .ok (.getfield 137, 3) := by decide +kernel
theorem dX10_count_56 : decode cX10_count 56 = .ok (.ireturn, 1) := by decide +kernel
theorem dX10_count_57 : decode cX10_count 57 = .ok (.aload_n 0, 1) := by decide +kernel
theorem dX10_count_58 : decode cX10_count 58 = .ok (.invokevirtual 305, 3) := by decide +kernel
theorem dX10_count_61 : decode cX10_count 61 = .ok (.ireturn, 1) := by decide +kernel
theorem dX10_count_62 : decode cX10_count 62 = .ok (.aload_n 0, 1) := by decide +kernel
theorem dX10_count_63 : decode cX10_count 63 = .ok (.invokevirtual 182, 3) := by decide +kernel
theorem dX10_count_66 : decode cX10_count 66 = .ok (.getfield 309, 3) := by decide +kernel
theorem dX10_count_69 : decode cX10_count 69 = .ok (.ireturn, 1) := by decide +kernel
theorem dX10_count_70 : decode cX10_count 70 = .ok (.aload_n 0, 1) := by decide +kernel
theorem dX10_count_71 : decode cX10_count 71 = .ok (.invokevirtual 165, 3) := by decide +kernel
theorem dX10_count_74 : decode cX10_count 74 = .ok (.iconst 0, 1) := by decide +kernel
theorem dX10_count_75 : decode cX10_count 75 = .ok (.invokevirtual 310, 3) := by decide +kernel
theorem dX10_count_78 : decode cX10_count 78 = .ok (.ireturn, 1) := by decide +kernel
theorem dX10_count_79 : decode cX10_count 79 = .ok (.aload_n 0, 1) := by decide +kernel
theorem dX10_count_80 : decode cX10_count 80 = .ok (.invokevirtual 165, 3) := by decide +kernel
theorem dX10_count_83 : decode cX10_count 83 = .ok (.iconst 1, 1) := by decide +kernel
theorem dX10_count_84 : decode cX10_count 84 = .ok (.invokevirtual 310, 3) := by decide +kernel
theorem dX10_count_87 : decode cX10_count 87 = .ok (.ireturn, 1) := by decide +kernel
theorem dX10_count_88 : decode cX10_count 88 = .ok (.aload_n 0, 1) := by decide +kernel
theorem dX10_count_89 : decode cX10_count 89 = .ok (.invokevirtual 165, 3) := by decide +kernel
theorem dX10_count_92 : decode cX10_count 92 = .ok (.iconst 2, 1) := by decide +kernel
theorem dX10_count_93 : decode cX10_count 93 = .ok (.invokevirtual 310, 3) := by decide +kernel
theorem dX10_count_96 : decode cX10_count 96 = .ok (.ireturn, 1) := by decide +kernel
theorem dX10_count_97 : decode cX10_count 97 = .ok (.ldc 92, 2) := by decide +kernel
theorem dX10_count_99 : decode cX10_count 99 = .ok (.ireturn, 1) := by decide +kernel
theorem dX10_status_0 : decode cX10_status 0 = .ok (.aload_n 0, 1) := by decide +kernel
theorem dX10_status_1 : decode cX10_status 1 = .ok (.getfield 121, 3) := by decide +kernel
theorem dX10_status_4 : decode cX10_status 4 = .ok (.ireturn, 1) := by decide +kernel
theorem dX10_found_0 : decode cX10_found 0 = .ok (.aload_n 0, 1) := by decide +kernel
theorem dX10_found_1 : decode cX10_found 1 = .ok (.iload_n 1, 1) := by decide +kernel
theorem dX10_found_2 : decode cX10_found 2 = .ok (.putfield 121, 3) := by decide +kernel
theorem dX10_found_5 : decode cX10_found 5 = .ok (.ldc_w 313, 3) := by decide +kernel
theorem dX10_found_8 : decode cX10_found 8 = .ok (.iload_n 1, 1) := by decide +kernel
theorem dX10_found_9 : decode cX10_found 9 = .ok (.isub, 1) := by decide +kernel
theorem dX10_found_10 : decode cX10_found 10 = .ok (.ireturn, 1) := by decide +kernel
theorem dX10_done_0 : decode cX10_done 0 = .ok (.aload_n 0, 1) := by decide +kernel
theorem dX10_done_1 : decode cX10_done 1 = .ok (.iconst 0, 1) := by decide +kernel
theorem dX10_done_2 : decode cX10_done 2 = .ok (.putfield 121, 3) := by decide +kernel
theorem dX10_done_5 : decode cX10_done 5 = .ok (.iload_n 1, 1) := by decide +kernel
theorem dX10_done_6 : decode cX10_done 6 = .ok (.ireturn, 1) := by decide +kernel
theorem dX10_isGiven_0 : decode cX10_isGiven 0 = .ok (.iload_n 1, 1) := by decide +kernel
theorem dX10_isGiven_1 : decode cX10_isGiven 1 = .ok (.aload_n 0, 1) := by decide +kernel
theorem dX10_isGiven_2 : decode cX10_isGiven 2 = .ok (.getfield 137, 3) := by decide +kernel
theorem dX10_isGiven_5 : decode cX10_isGiven 5 = .ok (.invokestatic 88, 3) := by decide +kernel
theorem dX10_isGiven_8 : decode cX10_isGiven 8 = .ok (.ireturn, 1) := by decide +kernel
theorem dX10_bedsThere_0 : decode cX10_bedsThere 0 = .ok (.iconst 0, 1) := by decide +kernel
theorem dX10_bedsThere_1 : decode cX10_bedsThere 1 = .ok (.istore_n 1, 1) := by decide +kernel
theorem dX10_bedsThere_2 : decode cX10_bedsThere 2 = .ok (.iconst 0, 1) := by decide +kernel
theorem dX10_bedsThere_3 : decode cX10_bedsThere 3 = .ok (.istore_n 2, 1) := by decide +kernel
theorem dX10_bedsThere_4 : decode cX10_bedsThere 4 = .ok (.iload_n 2, 1) := by decide +kernel
theorem dX10_bedsThere_5 : decode cX10_bedsThere 5 = .ok (.bipush 8, 2) := by decide +kernel
theorem dX10_bedsThere_7 : decode cX10_bedsThere 7 = .ok (.if_icmp .ge 24, 3) := by decide +kernel
theorem dX10_bedsThere_10 : decode cX10_bedsThere 10 = .ok (.aload_n 0, 1) := by decide +kernel
theorem dX10_bedsThere_11 : decode cX10_bedsThere 11 = .ok (.getfield 11, 3) := by decide +kernel
theorem dX10_bedsThere_14 : decode cX10_bedsThere 14 = .ok (.iload_n 2, 1) := by decide +kernel
theorem dX10_bedsThere_15 : decode cX10_bedsThere 15 = .ok (.aaload, 1) := by decide +kernel
theorem dX10_bedsThere_16 : decode cX10_bedsThere 16 = .ok (.getfield 106, 3) := by decide +kernel
theorem dX10_bedsThere_19 : decode cX10_bedsThere 19 = .ok (.ifCond .eq 6, 3) := by decide +kernel
theorem dX10_bedsThere_22 : decode cX10_bedsThere 22 = .ok (.iinc 1 1, 3) := by decide +kernel
theorem dX10_bedsThere_25 : decode cX10_bedsThere 25 = .ok (.iinc 2 1, 3) := by decide +kernel
theorem dX10_bedsThere_28 : decode cX10_bedsThere 28 = .ok (.goto (-24), 3) := by decide +kernel
theorem dX10_bedsThere_31 : decode cX10_bedsThere 31 = .ok (.iload_n 1, 1) := by decide +kernel
theorem dX10_bedsThere_32 : decode cX10_bedsThere 32 = .ok (.ireturn, 1) := by decide +kernel
theorem dX10_keepForUndo_0 : decode cX10_keepForUndo 0 = .ok (.aload_n 0, 1) := by decide +kernel
theorem dX10_keepForUndo_1 : decode cX10_keepForUndo 1 = .ok (.getfield 26, 3) := by decide +kernel
theorem dX10_keepForUndo_4 : decode cX10_keepForUndo 4 = .ok (.iconst 1, 1) := by decide +kernel
theorem dX10_keepForUndo_5 : decode cX10_keepForUndo 5 = .ok (.putfield 207, 3) := by decide +kernel
theorem dX10_keepForUndo_8 : decode cX10_keepForUndo 8 = .ok (.aload_n 0, 1) := by decide +kernel
theorem dX10_keepForUndo_9 : decode cX10_keepForUndo 9 = .ok (.getfield 26, 3) := by decide +kernel
theorem dX10_keepForUndo_12 : decode cX10_keepForUndo 12 = .ok (.iload_n 1, 1) := by decide +kernel
theorem dX10_keepForUndo_13 : decode cX10_keepForUndo 13 = .ok (.putfield 210, 3) := by decide +kernel
theorem dX10_keepForUndo_16 : decode cX10_keepForUndo 16 = .ok (.aload_n 0, 1) := by decide +kernel
theorem dX10_keepForUndo_17 : decode cX10_keepForUndo 17 = .ok (.getfield 26, 3) := by decide +kernel
theorem dX10_keepForUndo_20 : decode cX10_keepForUndo 20 = .ok (.aload_n 0, 1) := by decide +kernel
theorem dX10_keepForUndo_21 : decode cX10_keepForUndo 21 = .ok (.getfield 137, 3) := by decide +kernel
theorem dX10_keepForUndo_24 : decode cX10_keepForUndo 24 = .ok (.putfield 222, 3) := by decide +kernel
theorem dX10_keepForUndo_27 : decode cX10_keepForUndo 27 = .ok (.aload_n 0, 1) := by decide +kernel
theorem dX10_keepForUndo_28 : decode cX10_keepForUndo 28 = .ok (.getfield 26, 3) := by decide +kernel
theorem dX10_keepForUndo_31 : decode cX10_keepForUndo 31 = .ok (.getfield 214, 3) := by decide +kernel
theorem dX10_keepForUndo_34 : decode cX10_keepForUndo 34 = .ok (.aload_n 0, 1) := by decide +kernel
theorem dX10_keepForUndo_35 : decode cX10_keepForUndo 35 = .ok (.getfield 18, 3) := by decide +kernel
theorem dX10_keepForUndo_38 : decode cX10_keepForUndo 38 = .ok (.iload_n 1, 1) := by decide +kernel
theorem dX10_keepForUndo_39 : decode cX10_keepForUndo 39 = .ok (.aaload, 1) := by decide +kernel
theorem dX10_keepForUndo_40 : decode cX10_keepForUndo 40 = .ok (.invokevirtual 218, 3) := by decide +kernel
theorem dX10_keepForUndo_43 : decode cX10_keepForUndo 43 = .ok (.return_, 1) := by decide +kernel
theorem dX10_forget_0 : decode cX10_forget 0 = .ok (.aload_n 0, 1) := by decide +kernel
theorem dX10_forget_1 : decode cX10_forget 1 = .ok (.getfield 52, 3) := by decide +kernel
theorem dX10_forget_4 : decode cX10_forget 4 = .ok (.iconst 0, 1) := by decide +kernel
theorem dX10_forget_5 : decode cX10_forget 5 = .ok (.putfield 314, 3) := by decide +kernel
theorem dX10_forget_8 : decode cX10_forget 8 = .ok (.aload_n 0, 1) := by decide +kernel
theorem dX10_forget_9 : decode cX10_forget 9 = .ok (.getfield 59, 3) := by decide +kernel
theorem dX10_forget_12 : decode cX10_forget 12 = .ok (.iconst 0, 1) := by decide +kernel
theorem dX10_forget_13 : decode cX10_forget 13 = .ok (.putfield 315, 3) := by decide +kernel
end
section
theorem dX10_forget_16 : decode cX10_forget 16 = .ok (.aload_n 0, 1) := by decide +kernel
theorem dX10_forget_17 : decode cX10_forget 17 = .ok (.getfield 66, 3) := by decide +kernel
theorem dX10_forget_20 : decode cX10_forget 20 = .ok (.iconst 0, 1) := by decide +kernel
theorem dX10_forget_21 : decode cX10_forget 21 = .ok (.putfield 316, 3) := by decide +kernel
theorem dX10_forget_24 : decode cX10_forget 24 = .ok (.aload_n 0, 1) := by decide +kernel
theorem dX10_forget_25 : decode cX10_forget 25 = .ok (.getfield 73, 3) := by decide +kernel
theorem dX10_forget_28 : decode cX10_forget 28 = .ok (.iconst 0, 1) := by decide +kernel
theorem dX10_forget_29 : decode cX10_forget 29 = .ok (.putfield 273, 3) := by decide +kernel
theorem dX10_forget_32 : decode cX10_forget 32 = .ok (.aload_n 0, 1) := by decide +kernel
theorem dX10_forget_33 : decode cX10_forget 33 = .ok (.getfield 80, 3) := by decide +kernel
theorem dX10_forget_36 : decode cX10_forget 36 = .ok (.iconst 0, 1) := by decide +kernel
theorem dX10_forget_37 : decode cX10_forget 37 = .ok (.putfield 294, 3) := by decide +kernel
theorem dX10_forget_40 : decode cX10_forget 40 = .ok (.return_, 1) := by decide +kernel
theorem dX10_gathered_0 : decode cX10_gathered 0 = .ok (.aload_n 0, 1) := by decide +kernel
theorem dX10_gathered_1 : decode cX10_gathered 1 = .ok (.getfield 52, 3) := by decide +kernel
theorem dX10_gathered_4 : decode cX10_gathered 4 = .ok (.getfield 314, 3) := by decide +kernel
theorem dX10_gathered_7 : decode cX10_gathered 7 = .ok (.ifCond .ne 18, 3) := by decide +kernel
theorem dX10_gathered_10 : decode cX10_gathered 10 = .ok (.aload_n 0, 1) := by decide +kernel
theorem dX10_gathered_11 : decode cX10_gathered 11 = .ok (.getfield 52, 3) := by decide +kernel
theorem dX10_gathered_14 : decode cX10_gathered 14 = .ok (.aload_n 0, 1) := by decide +kernel
theorem dX10_gathered_15 : decode cX10_gathered 15 = .ok (.getfield 18, 3) := by decide +kernel
theorem dX10_gathered_18 : decode cX10_gathered 18 = .ok (.aload_n 0, 1) := by decide +kernel
theorem dX10_gathered_19 : decode cX10_gathered 19 = .ok (.getfield 137, 3) := by decide +kernel
theorem dX10_gathered_22 : decode cX10_gathered 22 = .ok (.invokevirtual 317, 3) := by decide +kernel
theorem dX10_gathered_25 : decode cX10_gathered 25 = .ok (.aload_n 0, 1) := by decide +kernel
theorem dX10_gathered_26 : decode cX10_gathered 26 = .ok (.getfield 52, 3) := by decide +kernel
theorem dX10_gathered_29 : decode cX10_gathered 29 = .ok (.areturn, 1) := by decide +kernel
theorem dX10_joined_0 : decode cX10_joined 0 = .ok (.aload_n 0, 1) := by decide +kernel
theorem dX10_joined_1 : decode cX10_joined 1 = .ok (.getfield 59, 3) := by decide +kernel
theorem dX10_joined_4 : decode cX10_joined 4 = .ok (.getfield 315, 3) := by decide +kernel
theorem dX10_joined_7 : decode cX10_joined 7 = .ok (.ifCond .ne 14, 3) := by decide +kernel
theorem dX10_joined_10 : decode cX10_joined 10 = .ok (.aload_n 0, 1) := by decide +kernel
theorem dX10_joined_11 : decode cX10_joined 11 = .ok (.getfield 59, 3) := by decide +kernel
theorem dX10_joined_14 : decode cX10_joined 14 = .ok (.aload_n 0, 1) := by decide +kernel
theorem dX10_joined_15 : decode cX10_joined 15 = .ok (.invokevirtual 165, 3) := by decide +kernel
theorem dX10_joined_18 : decode cX10_joined 18 = .ok (.invokevirtual 321, 3) := by decide +kernel
theorem dX10_joined_21 : decode cX10_joined 21 = .ok (.aload_n 0, 1) := by decide +kernel
theorem dX10_joined_22 : decode cX10_joined 22 = .ok (.getfield 59, 3) := by decide +kernel
theorem dX10_joined_25 : decode cX10_joined 25 = .ok (.areturn, 1) := by decide +kernel
theorem dX10_peeled_0 : decode cX10_peeled 0 = .ok (.aload_n 0, 1) := by decide +kernel
theorem dX10_peeled_1 : decode cX10_peeled 1 = .ok (.getfield 66, 3) := by decide +kernel
theorem dX10_peeled_4 : decode cX10_peeled 4 = .ok (.getfield 316, 3) := by decide +kernel
theorem dX10_peeled_7 : decode cX10_peeled 7 = .ok (.ifCond .ne 14, 3) := by decide +kernel
theorem dX10_peeled_10 : decode cX10_peeled 10 = .ok (.aload_n 0, 1) := by decide +kernel
theorem dX10_peeled_11 : decode cX10_peeled 11 = .ok (.getfield 66, 3) := by decide +kernel
theorem dX10_peeled_14 : decode cX10_peeled 14 = .ok (.aload_n 0, 1) := by decide +kernel
theorem dX10_peeled_15 : decode cX10_peeled 15 = .ok (.invokevirtual 165, 3) := by decide +kernel
theorem dX10_peeled_18 : decode cX10_peeled 18 = .ok (.invokevirtual 324, 3) := by decide +kernel
theorem dX10_peeled_21 : decode cX10_peeled 21 = .ok (.aload_n 0, 1) := by decide +kernel
theorem dX10_peeled_22 : decode cX10_peeled 22 = .ok (.getfield 66, 3) := by decide +kernel
theorem dX10_peeled_25 : decode cX10_peeled 25 = .ok (.areturn, 1) := by decide +kernel
theorem dX10_isBelow_0 : decode cX10_isBelow 0 = .ok (.iload_n 0, 1) := by decide +kernel
theorem dX10_isBelow_1 : decode cX10_isBelow 1 = .ok (.ifCond .lt 12, 3) := by decide +kernel
theorem dX10_isBelow_4 : decode cX10_isBelow 4 = .ok (.iload_n 0, 1) := by decide +kernel
theorem dX10_isBelow_5 : decode cX10_isBelow 5 = .ok (.iload_n 1, 1) := by decide +kernel
theorem dX10_isBelow_6 : decode cX10_isBelow 6 = .ok (.if_icmp .ge 7, 3) := by decide +kernel
theorem dX10_isBelow_9 : decode cX10_isBelow 9 = .ok (.iconst 1, 1) := by decide +kernel
theorem dX10_isBelow_10 : decode cX10_isBelow 10 = .ok (.goto 4, 3) := by decide +kernel
theorem dX10_isBelow_13 : decode cX10_isBelow 13 = .ok (.iconst 0, 1) := by decide +kernel
theorem dX10_isBelow_14 : decode cX10_isBelow 14 = .ok (.ireturn, 1) := by decide +kernel
theorem dX10_isWithin_0 : decode cX10_isWithin 0 = .ok (.lload_n 0, 1) := by decide +kernel
theorem dX10_isWithin_1 : decode cX10_isWithin 1 = .ok (.lload_n 2, 1) := by decide +kernel
theorem dX10_isWithin_2 : decode cX10_isWithin 2 = .ok (.lneg, 1) := by decide +kernel
theorem dX10_isWithin_3 : decode cX10_isWithin 3 = .ok (.lcmp, 1) := by decide +kernel
theorem dX10_isWithin_4 : decode cX10_isWithin 4 = .ok (.ifCond .lt 13, 3) := by decide +kernel
theorem dX10_isWithin_7 : decode cX10_isWithin 7 = .ok (.lload_n 0, 1) := by decide +kernel
theorem dX10_isWithin_8 : decode cX10_isWithin 8 = .ok (.lload_n 2, 1) := by decide +kernel
theorem dX10_isWithin_9 : decode cX10_isWithin 9 = .ok (.lcmp, 1) := by decide +kernel
theorem dX10_isWithin_10 : decode cX10_isWithin 10 = .ok (.ifCond .gt 7, 3) := by decide +kernel
theorem dX10_isWithin_13 : decode cX10_isWithin 13 = .ok (.iconst 1, 1) := by decide +kernel
theorem dX10_isWithin_14 : decode cX10_isWithin 14 = .ok (.goto 4, 3) := by decide +kernel
theorem dX10_isWithin_17 : decode cX10_isWithin 17 = .ok (.iconst 0, 1) := by decide +kernel
theorem dX10_isWithin_18 : decode cX10_isWithin 18 = .ok (.ireturn, 1) := by decide +kernel
theorem dX10_isInField_0 : decode cX10_isInField 0 = .ok (.lload_n 0, 1) := by decide +kernel
theorem dX10_isInField_1 : decode cX10_isInField 1 = .ok (.ldc2_w 327, 3) := by decide +kernel
theorem dX10_isInField_4 : decode cX10_isInField 4 = .ok (.invokestatic 225, 3) := by decide +kernel
theorem dX10_isInField_7 : decode cX10_isInField 7 = .ok (.ireturn, 1) := by decide +kernel
theorem dX10_isBed_0 : decode cX10_isBed 0 = .ok (.iload_n 0, 1) := by decide +kernel
theorem dX10_isBed_1 : decode cX10_isBed 1 = .ok (.bipush 8, 2) := by decide +kernel
theorem dX10_isBed_3 : decode cX10_isBed 3 = .ok (.invokestatic 88, 3) := by decide +kernel
theorem dX10_isBed_6 : decode cX10_isBed 6 = .ok (.ireturn, 1) := by decide +kernel
theorem dX10_commonDivisor_0 : decode cX10_commonDivisor 0 = .ok (.lload_n 0, 1) := by decide +kernel
theorem dX10_commonDivisor_1 : decode cX10_commonDivisor 1 = .ok (.lconst 0, 1) := by decide +kernel
theorem dX10_commonDivisor_2 : decode cX10_commonDivisor 2 = .ok (.lcmp, 1) := by decide +kernel
theorem dX10_commonDivisor_3 : decode cX10_commonDivisor 3 = .ok (.ifCond .ge 8, 3) := by decide +kernel
theorem dX10_commonDivisor_6 : decode cX10_commonDivisor 6 = .ok (.lload_n 0, 1) := by decide +kernel
theorem dX10_commonDivisor_7 : decode cX10_commonDivisor 7 = .ok (.lneg, 1) := by decide +kernel
theorem dX10_commonDivisor_8 : decode cX10_commonDivisor 8 = .ok (.goto 4, 3) := by decide +kernel
theorem dX10_commonDivisor_11 : decode cX10_commonDivisor 11 = .ok (.lload_n 0, 1) := by decide +kernel
theorem dX10_commonDivisor_12 : decode cX10_commonDivisor 12 = .ok (.lstore 4, 2) := by decide +kernel
theorem dX10_commonDivisor_14 : decode cX10_commonDivisor 14 = .ok (.lload_n 2, 1) := by decide +kernel
theorem dX10_commonDivisor_15 : decode cX10_commonDivisor 15 = .ok (.lconst 0, 1) := by decide +kernel
theorem dX10_commonDivisor_16 : decode cX10_commonDivisor 16 = .ok (.lcmp, 1) := by decide +kernel
theorem dX10_commonDivisor_17 : decode cX10_commonDivisor 17 = .ok (.ifCond .ge 8, 3) := by decide +kernel
theorem dX10_commonDivisor_20 : decode cX10_commonDivisor 20 = .ok (.lload_n 2, 1) := by decide +kernel
theorem dX10_commonDivisor_21 : decode cX10_commonDivisor 21 = .ok (.lneg, 1) := by decide +kernel
theorem dX10_commonDivisor_22 : decode cX10_commonDivisor 22 = .ok (.goto 4, 3) := by decide +kernel
theorem dX10_commonDivisor_25 : decode cX10_commonDivisor 25 = .ok (.lload_n 2, 1) := by decide +kernel
theorem dX10_commonDivisor_26 : decode cX10_commonDivisor 26 = .ok (.lstore 6, 2) := by decide +kernel
theorem dX10_commonDivisor_28 : decode cX10_commonDivisor 28 = .ok (.iconst 0, 1) := by decide +kernel
theorem dX10_commonDivisor_29 : decode cX10_commonDivisor 29 = .ok (.istore 8, 2) := by decide +kernel
theorem dX10_commonDivisor_31 : decode cX10_commonDivisor 31 = .ok (.iload 8, 2) := by decide +kernel
theorem dX10_commonDivisor_33 : decode cX10_commonDivisor 33 = .ok (.bipush 100, 2) := by decide +kernel
theorem dX10_commonDivisor_35 : decode cX10_commonDivisor 35 = .ok (.if_icmp .ge 31, 3) := by decide +kernel
theorem dX10_commonDivisor_38 : decode cX10_commonDivisor 38 = .ok (.lload 6, 2) := by decide +kernel
theorem dX10_commonDivisor_40 : decode cX10_commonDivisor 40 = .ok (.lconst 0, 1) := by decide +kernel
theorem dX10_commonDivisor_41 : decode cX10_commonDivisor 41 = .ok (.lcmp, 1) := by decide +kernel
theorem dX10_commonDivisor_42 : decode cX10_commonDivisor 42 = .ok (.ifCond .eq 24, 3) := by decide +kernel
theorem dX10_commonDivisor_45 : decode cX10_commonDivisor 45 = .ok (.lload 4, 2) := by decide +kernel
theorem dX10_commonDivisor_47 : decode cX10_commonDivisor 47 = .ok (.lload 6, 2) := by decide +kernel
theorem dX10_commonDivisor_49 : decode cX10_commonDivisor 49 = .ok (.lrem, 1) := by decide +kernel
theorem dX10_commonDivisor_50 : decode cX10_commonDivisor 50 = .ok (.lstore 9, 2) := by decide +kernel
theorem dX10_commonDivisor_52 : decode cX10_commonDivisor 52 = .ok (.lload 6, 2) := by decide +kernel
theorem dX10_commonDivisor_54 : decode cX10_commonDivisor 54 = .ok (.lstore 4, 2) := by decide +kernel
theorem dX10_commonDivisor_56 : decode cX10_commonDivisor 56 = .ok (.lload 9, 2) := by decide +kernel
theorem dX10_commonDivisor_58 : decode cX10_commonDivisor 58 = .ok (.lstore 6, 2) := by decide +kernel
theorem dX10_commonDivisor_60 : decode cX10_commonDivisor 60 = .ok (.iinc 8 1, 3) := by decide +kernel
theorem dX10_commonDivisor_63 : decode cX10_commonDivisor 63 = .ok (.goto (-32), 3) := by decide +kernel
theorem dX10_commonDivisor_66 : decode cX10_commonDivisor 66 = .ok (.lload 4, 2) := by decide +kernel
theorem dX10_commonDivisor_68 : decode cX10_commonDivisor 68 = .ok (.lreturn, 1) := by decide +kernel
theorem dX10_without_0 : decode cX10_without 0 = .ok (.lload_n 0, 1) := by decide +kernel
theorem dX10_without_1 : decode cX10_without 1 = .ok (.lload_n 2, 1) := by decide +kernel
theorem dX10_without_2 : decode cX10_without 2 = .ok (.invokestatic 329, 3) := by decide +kernel
theorem dX10_without_5 : decode cX10_without 5 = .ok (.lstore 4, 2) := by decide +kernel
theorem dX10_without_7 : decode cX10_without 7 = .ok (.lload 4, 2) := by decide +kernel
theorem dX10_without_9 : decode cX10_without 9 = .ok (.lconst 1, 1) := by decide +kernel
theorem dX10_without_10 : decode cX10_without 10 = .ok (.lcmp, 1) := by decide +kernel
theorem dX10_without_11 : decode cX10_without 11 = .ok (.ifCond .le 10, 3) := by decide +kernel
theorem dX10_without_14 : decode cX10_without 14 = .ok (.lload_n 0, 1) := by decide +kernel
theorem dX10_without_15 : decode cX10_without 15 = .ok (.lload 4, 2) := by decide +kernel
theorem dX10_without_17 : decode cX10_without 17 = .ok (.ldiv, 1) := by decide +kernel
theorem dX10_without_18 : decode cX10_without 18 = .ok (.goto 4, 3) := by decide +kernel
theorem dX10_without_21 : decode cX10_without 21 = .ok (.lload_n 0, 1) := by decide +kernel
theorem dX10_without_22 : decode cX10_without 22 = .ok (.lreturn, 1) := by decide +kernel
theorem dX11_init_0 : decode cX11_init 0 = .ok (.aload_n 0, 1) := by decide +kernel
theorem dX11_init_1 : decode cX11_init 1 = .ok (.invokespecial 1, 3) := by decide +kernel
theorem dX11_init_4 : decode cX11_init 4 = .ok (.aload_n 0, 1) := by decide +kernel
theorem dX11_init_5 : decode cX11_init 5 = .ok (.bipush 40, 2) := by decide +kernel
theorem dX11_init_7 : decode cX11_init 7 = .ok (.newarray .int, 2) := by decide +kernel
theorem dX11_init_9 : decode cX11_init 9 = .ok (.putfield 7, 3) := by decide +kernel
theorem dX11_init_12 : decode cX11_init 12 = .ok (.aload_n 0, 1) := by decide +kernel
theorem dX11_init_13 : decode cX11_init 13 = .ok (.bipush 40, 2) := by decide +kernel
theorem dX11_init_15 : decode cX11_init 15 = .ok (.newarray .int, 2) := by decide +kernel
theorem dX11_init_17 : decode cX11_init 17 = .ok (.putfield 13, 3) := by decide +kernel
theorem dX11_init_20 : decode cX11_init 20 = .ok (.aload_n 0, 1) := by decide +kernel
theorem dX11_init_21 : decode cX11_init 21 = .ok (.bipush 40, 2) := by decide +kernel
theorem dX11_init_23 : decode cX11_init 23 = .ok (.newarray .int, 2) := by decide +kernel
theorem dX11_init_25 : decode cX11_init 25 = .ok (.putfield 16, 3) := by decide +kernel
theorem dX11_init_28 : decode cX11_init 28 = .ok (.aload_n 0, 1) := by decide +kernel
theorem dX11_init_29 : decode cX11_init 29 = .ok (.bipush 40, 2) := by decide +kernel
theorem dX11_init_31 : decode cX11_init 31 = .ok (.newarray .int, 2) := by decide +kernel
theorem dX11_init_33 : decode cX11_init 33 = .ok (.putfield 19, 3) := by decide +kernel
theorem dX11_init_36 : decode cX11_init 36 = .ok (.aload_n 0, 1) := by decide +kernel
theorem dX11_init_37 : decode cX11_init 37 = .ok (.bipush 40, 2) := by decide +kernel
theorem dX11_init_39 : decode cX11_init 39 = .ok (.newarray .boolean, 2) := by decide +kernel
theorem dX11_init_41 : decode cX11_init 41 = .ok (.putfield 22, 3) := by decide +kernel
theorem dX11_init_44 : decode cX11_init 44 = .ok (.aload_n 0, 1) := by decide +kernel
theorem dX11_init_45 : decode cX11_init 45 = .ok (.ldc 26, 2) := by decide +kernel
theorem dX11_init_47 : decode cX11_init 47 = .ok (.putfield 27, 3) := by decide +kernel
theorem dX11_init_50 : decode cX11_init 50 = .ok (.aload_n 0, 1) := by decide +kernel
theorem dX11_init_51 : decode cX11_init 51 = .ok (.bipush 8, 2) := by decide +kernel
theorem dX11_init_53 : decode cX11_init 53 = .ok (.newarray .int, 2) := by decide +kernel
theorem dX11_init_55 : decode cX11_init 55 = .ok (.putfield 31, 3) := by decide +kernel
theorem dX11_init_58 : decode cX11_init 58 = .ok (.aload_n 0, 1) := by decide +kernel
theorem dX11_init_59 : decode cX11_init 59 = .ok (.bipush 8, 2) := by decide +kernel
theorem dX11_init_61 : decode cX11_init 61 = .ok (.newarray .int, 2) := by decide +kernel
theorem dX11_init_63 : decode cX11_init 63 = .ok (.putfield 34, 3) := by decide +kernel
theorem dX11_init_66 : decode cX11_init 66 = .ok (.aload_n 0, 1) := by decide +kernel
theorem dX11_init_67 : decode cX11_init 67 = .ok (.sipush 800, 3) := by decide +kernel
theorem dX11_init_70 : decode cX11_init 70 = .ok (.newarray .long, 2) := by decide +kernel
theorem dX11_init_72 : decode cX11_init 72 = .ok (.putfield 37, 3) := by decide +kernel
theorem dX11_init_75 : decode cX11_init 75 = .ok (.aload_n 0, 1) := by decide +kernel
theorem dX11_init_76 : decode cX11_init 76 = .ok (.bipush 100, 2) := by decide +kernel
theorem dX11_init_78 : decode cX11_init 78 = .ok (.newarray .long, 2) := by decide +kernel
theorem dX11_init_80 : decode cX11_init 80 = .ok (.putfield 41, 3) := by decide +kernel
theorem dX11_init_83 : decode cX11_init 83 = .ok (.aload_n 0, 1) := by decide +kernel
theorem dX11_init_84 : decode cX11_init 84 = .ok (.bipush 16, 2) := by decide +kernel
theorem dX11_init_86 : decode cX11_init 86 = .ok (.newarray .int, 2) := by decide +kernel
theorem dX11_init_88 : decode cX11_init 88 = .ok (.putfield 44, 3) := by decide +kernel
theorem dX11_init_91 : decode cX11_init 91 = .ok (.aload_n 0, 1) := by decide +kernel
theorem dX11_init_92 : decode cX11_init 92 = .ok (.lconst 1, 1) := by decide +kernel
theorem dX11_init_93 : decode cX11_init 93 = .ok (.putfield 47, 3) := by decide +kernel
theorem dX11_init_96 : decode cX11_init 96 = .ok (.aload_n 0, 1) := by decide +kernel
theorem dX11_init_97 : decode cX11_init 97 = .ok (.bipush 40, 2) := by decide +kernel
theorem dX11_init_99 : decode cX11_init 99 = .ok (.newarray .long, 2) := by decide +kernel
theorem dX11_init_101 : decode cX11_init 101 = .ok (.putfield 51, 3) := by decide +kernel
theorem dX11_init_104 : decode cX11_init 104 = .ok (.aload_n 0, 1) := by decide +kernel
theorem dX11_init_105 : decode cX11_init 105 = .ok (.bipush 40, 2) := by decide +kernel
theorem dX11_init_107 : decode cX11_init 107 = .ok (.newarray .long, 2) := by decide +kernel
theorem dX11_init_109 : decode cX11_init 109 = .ok (.putfield 54, 3) := by decide +kernel
theorem dX11_init_112 : decode cX11_init 112 = .ok (.aload_n 0, 1) := by decide +kernel
theorem dX11_init_113 : decode cX11_init 113 = .ok (.bipush 40, 2) := by decide +kernel
theorem dX11_init_115 : decode cX11_init 115 = .ok (.newarray .int, 2) := by decide +kernel
theorem dX11_init_117 : decode cX11_init 117 = .ok (.putfield 57, 3) := by decide +kernel
theorem dX11_init_120 : decode cX11_init 120 = .ok (.aload_n 0, 1) := by decide +kernel
theorem dX11_init_121 : decode cX11_init 121 = .ok (.bipush 66, 2) := by decide +kernel
theorem dX11_init_123 : decode cX11_init 123 = .ok (.newarray .long, 2) := by decide +kernel
theorem dX11_init_125 : decode cX11_init 125 = .ok (.putfield 60, 3) := by decide +kernel
theorem dX11_init_128 : decode cX11_init 128 = .ok (.aload_n 0, 1) := by decide +kernel
theorem dX11_init_129 : decode cX11_init 129 = .ok (.bipush 66, 2) := by decide +kernel
theorem dX11_init_131 : decode cX11_init 131 = .ok (.newarray .long, 2) := by decide +kernel
theorem dX11_init_133 : decode cX11_init 133 = .ok (.putfield 63, 3) := by decide +kernel
theorem dX11_init_136 : decode cX11_init 136 = .ok (.aload_n 0, 1) := by decide +kernel
theorem dX11_init_137 : decode cX11_init 137 = .ok (.bipush 66, 2) := by decide +kernel
theorem dX11_init_139 : decode cX11_init 139 = .ok (.newarray .long, 2) := by decide +kernel
theorem dX11_init_141 : decode cX11_init 141 = .ok (.putfield 66, 3) := by decide +kernel
theorem dX11_init_144 : decode cX11_init 144 = .ok (.aload_n 0, 1) := by decide +kernel
theorem dX11_init_145 : decode cX11_init 145 = .ok (.bipush 40, 2) := by decide +kernel
theorem dX11_init_147 : decode cX11_init 147 = .ok (.newarray .int, 2) := by decide +kernel
theorem dX11_init_149 : decode cX11_init 149 = .ok (.putfield 69, 3) := by decide +kernel
theorem dX11_init_152 : decode cX11_init 152 = .ok (.aload_n 0, 1) := by decide +kernel
theorem dX11_init_153 : decode cX11_init 153 = .ok (.bipush 40, 2) := by decide +kernel
theorem dX11_init_155 : decode cX11_init 155 = .ok (.newarray .boolean, 2) := by decide +kernel
theorem dX11_init_157 : decode cX11_init 157 = .ok (.putfield 72, 3) := by decide +kernel
theorem dX11_init_160 : decode cX11_init 160 = .ok (.return_, 1) := by decide +kernel
theorem dX11_in_0 : decode cX11_in 0 = .ok (.lload_n 0, 1) := by decide +kernel
theorem dX11_in_1 : decode cX11_in 1 = .ok (.lload_n 2, 1) := by decide +kernel
theorem dX11_in_2 : decode cX11_in 2 = .ok (.lcmp, 1) := by decide +kernel
theorem dX11_in_3 : decode cX11_in 3 = .ok (.ifCond .lt 14, 3) := by decide +kernel
theorem dX11_in_6 : decode cX11_in 6 = .ok (.lload_n 0, 1) := by decide +kernel
theorem dX11_in_7 : decode cX11_in 7 = .ok (.lload 4, 2) := by decide +kernel
theorem dX11_in_9 : decode cX11_in 9 = .ok (.lcmp, 1) := by decide +kernel
theorem dX11_in_10 : decode cX11_in 10 = .ok (.ifCond .gt 7, 3) := by decide +kernel
theorem dX11_in_13 : decode cX11_in 13 = .ok (.iconst 1, 1) := by decide +kernel
theorem dX11_in_14 : decode cX11_in 14 = .ok (.goto 4, 3) := by decide +kernel
theorem dX11_in_17 : decode cX11_in 17 = .ok (.iconst 0, 1) := by decide +kernel
theorem dX11_in_18 : decode cX11_in 18 = .ok (.ireturn, 1) := by decide +kernel
theorem dX11_finds_0 : decode cX11_finds 0 = .ok (.aload_n 0, 1) := by decide +kernel
theorem dX11_finds_1 : decode cX11_finds 1 = .ok (.iload_n 1, 1) := by decide +kernel
theorem dX11_finds_2 : decode cX11_finds 2 = .ok (.putfield 75, 3) := by decide +kernel
theorem dX11_finds_5 : decode cX11_finds 5 = .ok (.ldc 78, 2) := by decide +kernel
theorem dX11_finds_7 : decode cX11_finds 7 = .ok (.iload_n 1, 1) := by decide +kernel
theorem dX11_finds_8 : decode cX11_finds 8 = .ok (.isub, 1) := by decide +kernel
theorem dX11_finds_9 : decode cX11_finds 9 = .ok (.ireturn, 1) := by decide +kernel
theorem dX11_well_0 : decode cX11_well 0 = .ok (.aload_n 0, 1) := by decide +kernel
theorem dX11_well_1 : decode cX11_well 1 = .ok (.iconst 0, 1) := by decide +kernel
theorem dX11_well_2 : decode cX11_well 2 = .ok (.putfield 75, 3) := by decide +kernel
theorem dX11_well_5 : decode cX11_well 5 = .ok (.iload_n 1, 1) := by decide +kernel
theorem dX11_well_6 : decode cX11_well 6 = .ok (.ireturn, 1) := by decide +kernel
theorem dX11_isBed_0 : decode cX11_isBed 0 = .ok (.iload_n 0, 1) := by decide +kernel
theorem dX11_isBed_1 : decode cX11_isBed 1 = .ok (.i2l, 1) := by decide +kernel
theorem dX11_isBed_2 : decode cX11_isBed 2 = .ok (.lconst 0, 1) := by decide +kernel
theorem dX11_isBed_3 : decode cX11_isBed 3 = .ok (.ldc2_w 79, 3) := by decide +kernel
theorem dX11_isBed_6 : decode cX11_isBed 6 = .ok (.invokestatic 81, 3) := by decide +kernel
theorem dX11_isBed_9 : decode cX11_isBed 9 = .ok (.ireturn, 1) := by decide +kernel
theorem dX11_bed_0 : decode cX11_bed 0 = .ok (.iload_n 1, 1) := by decide +kernel
theorem dX11_bed_1 : decode cX11_bed 1 = .ok (.invokestatic 85, 3) := by decide +kernel
theorem dX11_bed_4 : decode cX11_bed 4 = .ok (.ifCond .eq 21, 3) := by decide +kernel
theorem dX11_bed_7 : decode cX11_bed 7 = .ok (.iload_n 2, 1) := by decide +kernel
theorem dX11_bed_8 : decode cX11_bed 8 = .ok (.i2l, 1) := by decide +kernel
theorem dX11_bed_9 : decode cX11_bed 9 = .ok (.lconst 0, 1) := by decide +kernel
theorem dX11_bed_10 : decode cX11_bed 10 = .ok (.ldc2_w 89, 3) := by decide +kernel
theorem dX11_bed_13 : decode cX11_bed 13 = .ok (.invokestatic 81, 3) := by decide +kernel
theorem dX11_bed_16 : decode cX11_bed 16 = .ok (.ifCond .eq 9, 3) := by decide +kernel
theorem dX11_bed_19 : decode cX11_bed 19 = .ok (.iload_n 3, 1) := by decide +kernel
theorem dX11_bed_20 : decode cX11_bed 20 = .ok (.bipush 100, 2) := by decide +kernel
theorem dX11_bed_22 : decode cX11_bed 22 = .ok (.if_icmp .le 6, 3) := by decide +kernel
theorem dX11_bed_25 : decode cX11_bed 25 = .ok (.ldc 91, 2) := by decide +kernel
theorem dX11_bed_27 : decode cX11_bed 27 = .ok (.ireturn, 1) := by decide +kernel
theorem dX11_bed_28 : decode cX11_bed 28 = .ok (.iload_n 3, 1) := by decide +kernel
theorem dX11_bed_29 : decode cX11_bed 29 = .ok (.ifCond .ge 9, 3) := by decide +kernel
theorem dX11_bed_32 : decode cX11_bed 32 = .ok (.aload_n 0, 1) := by decide +kernel
theorem dX11_bed_33 : decode cX11_bed 33 = .ok (.iconst 4, 1) := by decide +kernel
theorem dX11_bed_34 : decode cX11_bed 34 = .ok (.invokevirtual 92, 3) := by decide +kernel
theorem dX11_bed_37 : decode cX11_bed 37 = .ok (.ireturn, 1) := by decide +kernel
theorem dX11_bed_38 : decode cX11_bed 38 = .ok (.aload_n 0, 1) := by decide +kernel
theorem dX11_bed_39 : decode cX11_bed 39 = .ok (.getfield 31, 3) := by decide +kernel
theorem dX11_bed_42 : decode cX11_bed 42 = .ok (.iload_n 1, 1) := by decide +kernel
theorem dX11_bed_43 : decode cX11_bed 43 = .ok (.iload_n 2, 1) := by decide +kernel
theorem dX11_bed_44 : decode cX11_bed 44 = .ok (.iconst 1, 1) := by decide +kernel
theorem dX11_bed_45 : decode cX11_bed 45 = .ok (.iadd, 1) := by decide +kernel
theorem dX11_bed_46 : decode cX11_bed 46 = .ok (.iastore, 1) := by decide +kernel
theorem dX11_bed_47 : decode cX11_bed 47 = .ok (.aload_n 0, 1) := by decide +kernel
theorem dX11_bed_48 : decode cX11_bed 48 = .ok (.getfield 34, 3) := by decide +kernel
theorem dX11_bed_51 : decode cX11_bed 51 = .ok (.iload_n 1, 1) := by decide +kernel
theorem dX11_bed_52 : decode cX11_bed 52 = .ok (.iload_n 3, 1) := by decide +kernel
theorem dX11_bed_53 : decode cX11_bed 53 = .ok (.iastore, 1) := by decide +kernel
theorem dX11_bed_54 : decode cX11_bed 54 = .ok (.iconst 0, 1) := by decide +kernel
theorem dX11_bed_55 : decode cX11_bed 55 = .ok (.istore 4, 2) := by decide +kernel
theorem dX11_bed_57 : decode cX11_bed 57 = .ok (.iload 4, 2) := by decide +kernel
theorem dX11_bed_59 : decode cX11_bed 59 = .ok (.iload_n 3, 1) := by decide +kernel
theorem dX11_bed_60 : decode cX11_bed 60 = .ok (.if_icmp .ge 22, 3) := by decide +kernel
theorem dX11_bed_63 : decode cX11_bed 63 = .ok (.aload_n 0, 1) := by decide +kernel
theorem dX11_bed_64 : decode cX11_bed 64 = .ok (.getfield 37, 3) := by decide +kernel
theorem dX11_bed_67 : decode cX11_bed 67 = .ok (.bipush 100, 2) := by decide +kernel
theorem dX11_bed_69 : decode cX11_bed 69 = .ok (.iload_n 1, 1) := by decide +kernel
theorem dX11_bed_70 : decode cX11_bed 70 = .ok (.imul, 1) := by decide +kernel
theorem dX11_bed_71 : decode cX11_bed 71 = .ok (.iload 4, 2) := by decide +kernel
theorem dX11_bed_73 : decode cX11_bed 73 = .ok (.iadd, 1) := by decide +kernel
theorem dX11_bed_74 : decode cX11_bed 74 = .ok (.lconst 0, 1) := by decide +kernel
theorem dX11_bed_75 : decode cX11_bed 75 = .ok (.lastore, 1) := by decide +kernel
theorem dX11_bed_76 : decode cX11_bed 76 = .ok (.iinc 4 1, 3) := by decide +kernel
theorem dX11_bed_79 : decode cX11_bed 79 = .ok (.goto (-22), 3) := by decide +kernel
theorem dX11_bed_82 : decode cX11_bed 82 = .ok (.aload_n 0, 1) := by decide +kernel
theorem dX11_bed_83 : decode cX11_bed 83 = .ok (.iload_n 3, 1) := by decide +kernel
theorem dX11_bed_84 : decode cX11_bed 84 = .ok (.invokevirtual 96, 3) := by decide +kernel
theorem dX11_bed_87 : decode cX11_bed 87 = .ok (.ireturn, 1) := by decide +kernel
theorem dX11_set_0 : decode cX11_set 0 = .ok (.iload_n 1, 1) := by decide +kernel
theorem dX11_set_1 : decode cX11_set 1 = .ok (.invokestatic 85, 3) := by decide +kernel
theorem dX11_set_4 : decode cX11_set 4 = .ok (.ifCond .ne 7, 3) := by decide +kernel
theorem dX11_set_7 : decode cX11_set 7 = .ok (.ldc2_w 99, 3) := by decide +kernel
theorem dX11_set_10 : decode cX11_set 10 = .ok (.lreturn, 1) := by decide +kernel
theorem dX11_set_11 : decode cX11_set 11 = .ok (.aload_n 0, 1) := by decide +kernel
theorem dX11_set_12 : decode cX11_set 12 = .ok (.getfield 31, 3) := by decide +kernel
theorem dX11_set_15 : decode cX11_set 15 = .ok (.iload_n 1, 1) := by decide +kernel
theorem dX11_set_16 : decode cX11_set 16 = .ok (.iaload, 1) := by decide +kernel
theorem dX11_set_17 : decode cX11_set 17 = .ok (.ifCond .ne 10, 3) := by decide +kernel
theorem dX11_set_20 : decode cX11_set 20 = .ok (.aload_n 0, 1) := by decide +kernel
theorem dX11_set_21 : decode cX11_set 21 = .ok (.iconst 1, 1) := by decide +kernel
theorem dX11_set_22 : decode cX11_set 22 = .ok (.invokevirtual 92, 3) := by decide +kernel
theorem dX11_set_25 : decode cX11_set 25 = .ok (.i2l, 1) := by decide +kernel
theorem dX11_set_26 : decode cX11_set 26 = .ok (.lreturn, 1) := by decide +kernel
theorem dX11_set_27 : decode cX11_set 27 = .ok (.iload_n 2, 1) := by decide +kernel
theorem dX11_set_28 : decode cX11_set 28 = .ok (.i2l, 1) := by decide +kernel
theorem dX11_set_29 : decode cX11_set 29 = .ok (.lconst 0, 1) := by decide +kernel
theorem dX11_set_30 : decode cX11_set 30 = .ok (.aload_n 0, 1) := by decide +kernel
theorem dX11_set_31 : decode cX11_set 31 = .ok (.getfield 34, 3) := by decide +kernel
theorem dX11_set_34 : decode cX11_set 34 = .ok (.iload_n 1, 1) := by decide +kernel
theorem dX11_set_35 : decode cX11_set 35 = .ok (.iaload, 1) := by decide +kernel
theorem dX11_set_36 : decode cX11_set 36 = .ok (.iconst 1, 1) := by decide +kernel
theorem dX11_set_37 : decode cX11_set 37 = .ok (.isub, 1) := by decide +kernel
theorem dX11_set_38 : decode cX11_set 38 = .ok (.i2l, 1) := by decide +kernel
theorem dX11_set_39 : decode cX11_set 39 = .ok (.invokestatic 81, 3) := by decide +kernel
theorem dX11_set_42 : decode cX11_set 42 = .ok (.ifCond .ne 10, 3) := by decide +kernel
theorem dX11_set_45 : decode cX11_set 45 = .ok (.aload_n 0, 1) := by decide +kernel
theorem dX11_set_46 : decode cX11_set 46 = .ok (.iconst 2, 1) := by decide +kernel
theorem dX11_set_47 : decode cX11_set 47 = .ok (.invokevirtual 92, 3) := by decide +kernel
theorem dX11_set_50 : decode cX11_set 50 = .ok (.i2l, 1) := by decide +kernel
theorem dX11_set_51 : decode cX11_set 51 = .ok (.lreturn, 1) := by decide +kernel
theorem dX11_set_52 : decode cX11_set 52 = .ok (.aload_n 0, 1) := by decide +kernel
theorem dX11_set_53 : decode cX11_set 53 = .ok (.getfield 31, 3) := by decide +kernel
theorem dX11_set_56 : decode cX11_set 56 = .ok (.iload_n 1, 1) := by decide +kernel
theorem dX11_set_57 : decode cX11_set 57 = .ok (.iaload, 1) := by decide +kernel
theorem dX11_set_58 : decode cX11_set 58 = .ok (.iconst 1, 1) := by decide +kernel
theorem dX11_set_59 : decode cX11_set 59 = .ok (.if_icmp .ne 10, 3) := by decide +kernel
theorem dX11_set_62 : decode cX11_set 62 = .ok (.lload_n 3, 1) := by decide +kernel
theorem dX11_set_63 : decode cX11_set 63 = .ok (.l2i, 1) := by decide +kernel
theorem dX11_set_64 : decode cX11_set 64 = .ok (.i2s, 1) := by decide +kernel
theorem dX11_set_65 : decode cX11_set 65 = .ok (.i2l, 1) := by decide +kernel
theorem dX11_set_66 : decode cX11_set 66 = .ok (.goto 20, 3) := by decide +kernel
theorem dX11_set_69 : decode cX11_set 69 = .ok (.aload_n 0, 1) := by decide +kernel
theorem dX11_set_70 : decode cX11_set 70 = .ok (.getfield 31, 3) := by decide +kernel
theorem dX11_set_73 : decode cX11_set 73 = .ok (.iload_n 1, 1) := by decide +kernel
theorem dX11_set_74 : decode cX11_set 74 = .ok (.iaload, 1) := by decide +kernel
theorem dX11_set_75 : decode cX11_set 75 = .ok (.iconst 2, 1) := by decide +kernel
theorem dX11_set_76 : decode cX11_set 76 = .ok (.if_icmp .ne 9, 3) := by decide +kernel
theorem dX11_set_79 : decode cX11_set 79 = .ok (.lload_n 3, 1) := by decide +kernel
theorem dX11_set_80 : decode cX11_set 80 = .ok (.l2i, 1) := by decide +kernel
theorem dX11_set_81 : decode cX11_set 81 = .ok (.i2l, 1) := by decide +kernel
theorem dX11_set_82 : decode cX11_set 82 = .ok (.goto 4, 3) := by decide +kernel
theorem dX11_set_85 : decode cX11_set 85 = .ok (.lload_n 3, 1) := by decide +kernel
theorem dX11_set_86 : decode cX11_set 86 = .ok (.lstore 5, 2) := by decide +kernel
theorem dX11_set_88 : decode cX11_set 88 = .ok (.aload_n 0, 1) := by decide +kernel
theorem dX11_set_89 : decode cX11_set 89 = .ok (.getfield 37, 3) := by decide +kernel
theorem dX11_set_92 : decode cX11_set 92 = .ok (.bipush 100, 2) := by decide +kernel
theorem dX11_set_94 : decode cX11_set 94 = .ok (.iload_n 1, 1) := by decide +kernel
theorem dX11_set_95 : decode cX11_set 95 = .ok (.imul, 1) := by decide +kernel
theorem dX11_set_96 : decode cX11_set 96 = .ok (.iload_n 2, 1) := by decide +kernel
theorem dX11_set_97 : decode cX11_set 97 = .ok (.iadd, 1) := by decide +kernel
theorem dX11_set_98 : decode cX11_set 98 = .ok (.lload 5, 2) := by decide +kernel
theorem dX11_set_100 : decode cX11_set 100 = .ok (.lastore, 1) := by decide +kernel
theorem dX11_set_101 : decode cX11_set 101 = .ok (.aload_n 0, 1) := by decide +kernel
theorem dX11_set_102 : decode cX11_set 102 = .ok (.iconst 0, 1) := by decide +kernel
theorem dX11_set_103 : decode cX11_set 103 = .ok (.putfield 75, 3) := by decide +kernel
theorem dX11_set_106 : decode cX11_set 106 = .ok (.lload 5, 2) := by decide +kernel
theorem dX11_set_108 : decode cX11_set 108 = .ok (.lreturn, 1) := by decide +kernel
theorem dX11_drop_0 : decode cX11_drop 0 = .ok (.iload_n 1, 1) := by decide +kernel
theorem dX11_drop_1 : decode cX11_drop 1 = .ok (.invokestatic 85, 3) := by decide +kernel
theorem dX11_drop_4 : decode cX11_drop 4 = .ok (.ifCond .ne 6, 3) := by decide +kernel
theorem dX11_drop_7 : decode cX11_drop 7 = .ok (.ldc 91, 2) := by decide +kernel
theorem dX11_drop_9 : decode cX11_drop 9 = .ok (.ireturn, 1) := by decide +kernel
theorem dX11_drop_10 : decode cX11_drop 10 = .ok (.aload_n 0, 1) := by decide +kernel
theorem dX11_drop_11 : decode cX11_drop 11 = .ok (.getfield 31, 3) := by decide +kernel
theorem dX11_drop_14 : decode cX11_drop 14 = .ok (.iload_n 1, 1) := by decide +kernel
theorem dX11_drop_15 : decode cX11_drop 15 = .ok (.iaload, 1) := by decide +kernel
theorem dX11_drop_16 : decode cX11_drop 16 = .ok (.ifCond .ne 9, 3) := by decide +kernel
theorem dX11_drop_19 : decode cX11_drop 19 = .ok (.aload_n 0, 1) := by decide +kernel
theorem dX11_drop_20 : decode cX11_drop 20 = .ok (.iconst 1, 1) := by decide +kernel
theorem dX11_drop_21 : decode cX11_drop 21 = .ok (.invokevirtual 92, 3) := by decide +kernel
theorem dX11_drop_24 : decode cX11_drop 24 = .ok (.ireturn, 1) := by decide +kernel
theorem dX11_drop_25 : decode cX11_drop 25 = .ok (.aload_n 0, 1) := by decide +kernel
theorem dX11_drop_26 : decode cX11_drop 26 = .ok (.getfield 31, 3) := by decide +kernel
theorem dX11_drop_29 : decode cX11_drop 29 = .ok (.iload_n 1, 1) := by decide +kernel
theorem dX11_drop_30 : decode cX11_drop 30 = .ok (.iconst 0, 1) := by decide +kernel
theorem dX11_drop_31 : decode cX11_drop 31 = .ok (.iastore, 1) := by decide +kernel
theorem dX11_drop_32 : decode cX11_drop 32 = .ok (.aload_n 0, 1) := by decide +kernel
theorem dX11_drop_33 : decode cX11_drop 33 = .ok (.aload_n 0, 1) := by decide +kernel
theorem dX11_drop_34 : decode cX11_drop 34 = .ok (.getfield 34, 3) := by decide +kernel
theorem dX11_drop_37 : decode cX11_drop 37 = .ok (.iload_n 1, 1) := by decide +kernel
theorem dX11_drop_38 : decode cX11_drop 38 = .ok (.iaload, 1) := by decide +kernel
theorem dX11_drop_39 : decode cX11_drop 39 = .ok (.invokevirtual 96, 3) := by decide +kernel
theorem dX11_drop_42 : decode cX11_drop 42 = .ok (.ireturn, 1) := by decide +kernel
theorem dX11_copy_0 : decode cX11_copy 0 = .ok (.iload_n 1, 1) := by decide +kernel
theorem dX11_copy_1 : decode cX11_copy 1 = .ok (.invokestatic 85, 3) := by decide +kernel
theorem dX11_copy_4 : decode cX11_copy 4 = .ok (.ifCond .eq 10, 3) := by decide +kernel
theorem dX11_copy_7 : decode cX11_copy 7 = .ok (.iload_n 3, 1) := by decide +kernel
theorem dX11_copy_8 : decode cX11_copy 8 = .ok (.invokestatic 85, 3) := by decide +kernel
theorem dX11_copy_11 : decode cX11_copy 11 = .ok (.ifCond .ne 6, 3) := by decide +kernel
theorem dX11_copy_14 : decode cX11_copy 14 = .ok (.ldc 91, 2) := by decide +kernel
theorem dX11_copy_16 : decode cX11_copy 16 = .ok (.ireturn, 1) := by decide +kernel
theorem dX11_copy_17 : decode cX11_copy 17 = .ok (.aload_n 0, 1) := by decide +kernel
theorem dX11_copy_18 : decode cX11_copy 18 = .ok (.getfield 31, 3) := by decide +kernel
theorem dX11_copy_21 : decode cX11_copy 21 = .ok (.iload_n 1, 1) := by decide +kernel
theorem dX11_copy_22 : decode cX11_copy 22 = .ok (.iaload, 1) := by decide +kernel
theorem dX11_copy_23 : decode cX11_copy 23 = .ok (.ifCond .eq 12, 3) := by decide +kernel
theorem dX11_copy_26 : decode cX11_copy 26 = .ok (.aload_n 0, 1) := by decide +kernel
theorem dX11_copy_27 : decode cX11_copy 27 = .ok (.getfield 31, 3) := by decide +kernel
theorem dX11_copy_30 : decode cX11_copy 30 = .ok (.iload_n 3, 1) := by decide +kernel
theorem dX11_copy_31 : decode cX11_copy 31 = .ok (.iaload, 1) := by decide +kernel
theorem dX11_copy_32 : decode cX11_copy 32 = .ok (.ifCond .ne 9, 3) := by decide +kernel
theorem dX11_copy_35 : decode cX11_copy 35 = .ok (.aload_n 0, 1) := by decide +kernel
theorem dX11_copy_36 : decode cX11_copy 36 = .ok (.iconst 1, 1) := by decide +kernel
theorem dX11_copy_37 : decode cX11_copy 37 = .ok (.invokevirtual 92, 3) := by decide +kernel
theorem dX11_copy_40 : decode cX11_copy 40 = .ok (.ireturn, 1) := by decide +kernel
theorem dX11_copy_41 : decode cX11_copy 41 = .ok (.aload_n 0, 1) := by decide +kernel
theorem dX11_copy_42 : decode cX11_copy 42 = .ok (.getfield 31, 3) := by decide +kernel
theorem dX11_copy_45 : decode cX11_copy 45 = .ok (.iload_n 1, 1) := by decide +kernel
theorem dX11_copy_46 : decode cX11_copy 46 = .ok (.iaload, 1) := by decide +kernel
theorem dX11_copy_47 : decode cX11_copy 47 = .ok (.aload_n 0, 1) := by decide +kernel
theorem dX11_copy_48 : decode cX11_copy 48 = .ok (.getfield 31, 3) := by decide +kernel
theorem dX11_copy_51 : decode cX11_copy 51 = .ok (.iload_n 3, 1) := by decide +kernel
theorem dX11_copy_52 : decode cX11_copy 52 = .ok (.iaload, 1) := by decide +kernel
theorem dX11_copy_53 : decode cX11_copy 53 = .ok (.if_icmp .eq 9, 3) := by decide +kernel
theorem dX11_copy_56 : decode cX11_copy 56 = .ok (.aload_n 0, 1) := by decide +kernel
theorem dX11_copy_57 : decode cX11_copy 57 = .ok (.iconst 5, 1) := by decide +kernel
theorem dX11_copy_58 : decode cX11_copy 58 = .ok (.invokevirtual 92, 3) := by decide +kernel
theorem dX11_copy_61 : decode cX11_copy 61 = .ok (.ireturn, 1) := by decide +kernel
theorem dX11_copy_62 : decode cX11_copy 62 = .ok (.iload_n 2, 1) := by decide +kernel
theorem dX11_copy_63 : decode cX11_copy 63 = .ok (.ifCond .lt 48, 3) := by decide +kernel
theorem dX11_copy_66 : decode cX11_copy 66 = .ok (.iload 4, 2) := by decide +kernel
theorem dX11_copy_68 : decode cX11_copy 68 = .ok (.ifCond .lt 43, 3) := by decide +kernel
theorem dX11_copy_71 : decode cX11_copy 71 = .ok (.iload 5, 2) := by decide +kernel
theorem dX11_copy_73 : decode cX11_copy 73 = .ok (.ifCond .lt 38, 3) := by decide +kernel
theorem dX11_copy_76 : decode cX11_copy 76 = .ok (.iload_n 2, 1) := by decide +kernel
theorem dX11_copy_77 : decode cX11_copy 77 = .ok (.i2l, 1) := by decide +kernel
theorem dX11_copy_78 : decode cX11_copy 78 = .ok (.iload 5, 2) := by decide +kernel
theorem dX11_copy_80 : decode cX11_copy 80 = .ok (.i2l, 1) := by decide +kernel
theorem dX11_copy_81 : decode cX11_copy 81 = .ok (.ladd, 1) := by decide +kernel
theorem dX11_copy_82 : decode cX11_copy 82 = .ok (.aload_n 0, 1) := by decide +kernel
theorem dX11_copy_83 : decode cX11_copy 83 = .ok (.getfield 34, 3) := by decide +kernel
theorem dX11_copy_86 : decode cX11_copy 86 = .ok (.iload_n 1, 1) := by decide +kernel
theorem dX11_copy_87 : decode cX11_copy 87 = .ok (.iaload, 1) := by decide +kernel
theorem dX11_copy_88 : decode cX11_copy 88 = .ok (.i2l, 1) := by decide +kernel
theorem dX11_copy_89 : decode cX11_copy 89 = .ok (.lcmp, 1) := by decide +kernel
theorem dX11_copy_90 : decode cX11_copy 90 = .ok (.ifCond .gt 21, 3) := by decide +kernel
theorem dX11_copy_93 : decode cX11_copy 93 = .ok (.iload 4, 2) := by decide +kernel
theorem dX11_copy_95 : decode cX11_copy 95 = .ok (.i2l, 1) := by decide +kernel
theorem dX11_copy_96 : decode cX11_copy 96 = .ok (.iload 5, 2) := by decide +kernel
theorem dX11_copy_98 : decode cX11_copy 98 = .ok (.i2l, 1) := by decide +kernel
theorem dX11_copy_99 : decode cX11_copy 99 = .ok (.ladd, 1) := by decide +kernel
theorem dX11_copy_100 : decode cX11_copy 100 = .ok (.aload_n 0, 1) := by decide +kernel
theorem dX11_copy_101 : decode cX11_copy 101 = .ok (.getfield 34, 3) := by decide +kernel
theorem dX11_copy_104 : decode cX11_copy 104 = .ok (.iload_n 3, 1) := by decide +kernel
theorem dX11_copy_105 : decode cX11_copy 105 = .ok (.iaload, 1) := by decide +kernel
theorem dX11_copy_106 : decode cX11_copy 106 = .ok (.i2l, 1) := by decide +kernel
theorem dX11_copy_107 : decode cX11_copy 107 = .ok (.lcmp, 1) := by decide +kernel
theorem dX11_copy_108 : decode cX11_copy 108 = .ok (.ifCond .le 9, 3) := by decide +kernel
theorem dX11_copy_111 : decode cX11_copy 111 = .ok (.aload_n 0, 1) := by decide +kernel
theorem dX11_copy_112 : decode cX11_copy 112 = .ok (.iconst 2, 1) := by decide +kernel
theorem dX11_copy_113 : decode cX11_copy 113 = .ok (.invokevirtual 92, 3) := by decide +kernel
theorem dX11_copy_116 : decode cX11_copy 116 = .ok (.ireturn, 1) := by decide +kernel
theorem dX11_copy_117 : decode cX11_copy 117 = .ok (.iconst 0, 1) := by decide +kernel
theorem dX11_copy_118 : decode cX11_copy 118 = .ok (.istore 6, 2) := by decide +kernel
theorem dX11_copy_120 : decode cX11_copy 120 = .ok (.iload 6, 2) := by decide +kernel
theorem dX11_copy_122 : decode cX11_copy 122 = .ok (.iload 5, 2) := by decide +kernel
theorem dX11_copy_124 : decode cX11_copy 124 = .ok (.if_icmp .ge 30, 3) := by decide +kernel
theorem dX11_copy_127 : decode cX11_copy 127 = .ok (.aload_n 0, 1) := by decide +kernel
theorem dX11_copy_128 : decode cX11_copy 128 = .ok (.getfield 41, 3) := by decide +kernel
theorem dX11_copy_131 : decode cX11_copy 131 = .ok (.iload 6, 2) := by decide +kernel
theorem dX11_copy_133 : decode cX11_copy 133 = .ok (.aload_n 0, 1) := by decide +kernel
theorem dX11_copy_134 : decode cX11_copy 134 = .ok (.getfield 37, 3) := by decide +kernel
theorem dX11_copy_137 : decode cX11_copy 137 = .ok (.bipush 100, 2) := by decide +kernel
theorem dX11_copy_139 : decode cX11_copy 139 = .ok (.iload_n 1, 1) := by decide +kernel
theorem dX11_copy_140 : decode cX11_copy 140 = .ok (.imul, 1) := by decide +kernel
theorem dX11_copy_141 : decode cX11_copy 141 = .ok (.iload_n 2, 1) := by decide +kernel
theorem dX11_copy_142 : decode cX11_copy 142 = .ok (.iadd, 1) := by decide +kernel
theorem dX11_copy_143 : decode cX11_copy 143 = .ok (.iload 6, 2) := by decide +kernel
theorem dX11_copy_145 : decode cX11_copy 145 = .ok (.iadd, 1) := by decide +kernel
theorem dX11_copy_146 : decode cX11_copy 146 = .ok (.laload, 1) := by decide +kernel
theorem dX11_copy_147 : decode cX11_copy 147 = .ok (.lastore, 1) := by decide +kernel
theorem dX11_copy_148 : decode cX11_copy 148 = .ok (.iinc 6 1, 3) := by decide +kernel
theorem dX11_copy_151 : decode cX11_copy 151 = .ok (.goto (-31), 3) := by decide +kernel
theorem dX11_copy_154 : decode cX11_copy 154 = .ok (.iconst 0, 1) := by decide +kernel
theorem dX11_copy_155 : decode cX11_copy 155 = .ok (.istore 6, 2) := by decide +kernel
theorem dX11_copy_157 : decode cX11_copy 157 = .ok (.iload 6, 2) := by decide +kernel
theorem dX11_copy_159 : decode cX11_copy 159 = .ok (.iload 5, 2) := by decide +kernel
theorem dX11_copy_161 : decode cX11_copy 161 = .ok (.if_icmp .ge 31, 3) := by decide +kernel
theorem dX11_copy_164 : decode cX11_copy 164 = .ok (.aload_n 0, 1) := by decide +kernel
theorem dX11_copy_165 : decode cX11_copy 165 = .ok (.getfield 37, 3) := by decide +kernel
theorem dX11_copy_168 : decode cX11_copy 168 = .ok (.bipush 100, 2) := by decide +kernel
theorem dX11_copy_170 : decode cX11_copy 170 = .ok (.iload_n 3, 1) := by decide +kernel
theorem dX11_copy_171 : decode cX11_copy 171 = .ok (.imul, 1) := by decide +kernel
theorem dX11_copy_172 : decode cX11_copy 172 = .ok (.iload 4, 2) := by decide +kernel
theorem dX11_copy_174 : decode cX11_copy 174 = .ok (.iadd, 1) := by decide +kernel
theorem dX11_copy_175 : decode cX11_copy 175 = .ok (.iload 6, 2) := by decide +kernel
theorem dX11_copy_177 : decode cX11_copy 177 = .ok (.iadd, 1) := by decide +kernel
theorem dX11_copy_178 : decode cX11_copy 178 = .ok (.aload_n 0, 1) := by decide +kernel
theorem dX11_copy_179 : decode cX11_copy 179 = .ok (.getfield 41, 3) := by decide +kernel
theorem dX11_copy_182 : decode cX11_copy 182 = .ok (.iload 6, 2) := by decide +kernel
theorem dX11_copy_184 : decode cX11_copy 184 = .ok (.laload, 1) := by decide +kernel
theorem dX11_copy_185 : decode cX11_copy 185 = .ok (.lastore, 1) := by decide +kernel
theorem dX11_copy_186 : decode cX11_copy 186 = .ok (.iinc 6 1, 3) := by decide +kernel
theorem dX11_copy_189 : decode cX11_copy 189 = .ok (.goto (-32), 3) := by decide +kernel
theorem dX11_copy_192 : decode cX11_copy 192 = .ok (.aload_n 0, 1) := by decide +kernel
theorem dX11_copy_193 : decode cX11_copy 193 = .ok (.iload 5, 2) := by decide +kernel
theorem dX11_copy_195 : decode cX11_copy 195 = .ok (.invokevirtual 96, 3) := by decide +kernel
theorem dX11_copy_198 : decode cX11_copy 198 = .ok (.ireturn, 1) := by decide +kernel
theorem dX11_isPlant_0 : decode cX11_isPlant 0 = .ok (.iload_n 1, 1) := by decide +kernel
theorem dX11_isPlant_1 : decode cX11_isPlant 1 = .ok (.i2l, 1) := by decide +kernel
theorem dX11_isPlant_2 : decode cX11_isPlant 2 = .ok (.lconst 0, 1) := by decide +kernel
theorem dX11_isPlant_3 : decode cX11_isPlant 3 = .ok (.aload_n 0, 1) := by decide +kernel
theorem dX11_isPlant_4 : decode cX11_isPlant 4 = .ok (.getfield 101, 3) := by decide +kernel
theorem dX11_isPlant_7 : decode cX11_isPlant 7 = .ok (.iconst 1, 1) := by decide +kernel
theorem dX11_isPlant_8 : decode cX11_isPlant 8 = .ok (.isub, 1) := by decide +kernel
theorem dX11_isPlant_9 : decode cX11_isPlant 9 = .ok (.i2l, 1) := by decide +kernel
theorem dX11_isPlant_10 : decode cX11_isPlant 10 = .ok (.invokestatic 81, 3) := by decide +kernel
theorem dX11_isPlant_13 : decode cX11_isPlant 13 = .ok (.ireturn, 1) := by decide +kernel
theorem dX11_keep_0 : decode cX11_keep 0 = .ok (.aload_n 0, 1) := by decide +kernel
theorem dX11_keep_1 : decode cX11_keep 1 = .ok (.iload_n 1, 1) := by decide +kernel
theorem dX11_keep_2 : decode cX11_keep 2 = .ok (.putfield 27, 3) := by decide +kernel
theorem dX11_keep_5 : decode cX11_keep 5 = .ok (.aload_n 0, 1) := by decide +kernel
theorem dX11_keep_6 : decode cX11_keep 6 = .ok (.iload_n 2, 1) := by decide +kernel
theorem dX11_keep_7 : decode cX11_keep 7 = .ok (.putfield 104, 3) := by decide +kernel
theorem dX11_keep_10 : decode cX11_keep 10 = .ok (.aload_n 0, 1) := by decide +kernel
theorem dX11_keep_11 : decode cX11_keep 11 = .ok (.aload_n 0, 1) := by decide +kernel
theorem dX11_keep_12 : decode cX11_keep 12 = .ok (.getfield 7, 3) := by decide +kernel
theorem dX11_keep_15 : decode cX11_keep 15 = .ok (.iload_n 1, 1) := by decide +kernel
theorem dX11_keep_16 : decode cX11_keep 16 = .ok (.iaload, 1) := by decide +kernel
theorem dX11_keep_17 : decode cX11_keep 17 = .ok (.putfield 108, 3) := by decide +kernel
theorem dX11_keep_20 : decode cX11_keep 20 = .ok (.aload_n 0, 1) := by decide +kernel
theorem dX11_keep_21 : decode cX11_keep 21 = .ok (.aload_n 0, 1) := by decide +kernel
theorem dX11_keep_22 : decode cX11_keep 22 = .ok (.getfield 13, 3) := by decide +kernel
theorem dX11_keep_25 : decode cX11_keep 25 = .ok (.iload_n 1, 1) := by decide +kernel
theorem dX11_keep_26 : decode cX11_keep 26 = .ok (.iaload, 1) := by decide +kernel
theorem dX11_keep_27 : decode cX11_keep 27 = .ok (.putfield 111, 3) := by decide +kernel
theorem dX11_keep_30 : decode cX11_keep 30 = .ok (.aload_n 0, 1) := by decide +kernel
theorem dX11_keep_31 : decode cX11_keep 31 = .ok (.aload_n 0, 1) := by decide +kernel
theorem dX11_keep_32 : decode cX11_keep 32 = .ok (.getfield 19, 3) := by decide +kernel
theorem dX11_keep_35 : decode cX11_keep 35 = .ok (.iload_n 1, 1) := by decide +kernel
theorem dX11_keep_36 : decode cX11_keep 36 = .ok (.iaload, 1) := by decide +kernel
theorem dX11_keep_37 : decode cX11_keep 37 = .ok (.putfield 114, 3) := by decide +kernel
theorem dX11_keep_40 : decode cX11_keep 40 = .ok (.aload_n 0, 1) := by decide +kernel
theorem dX11_keep_41 : decode cX11_keep 41 = .ok (.aload_n 0, 1) := by decide +kernel
theorem dX11_keep_42 : decode cX11_keep 42 = .ok (.getfield 22, 3) := by decide +kernel
theorem dX11_keep_45 : decode cX11_keep 45 = .ok (.iload_n 1, 1) := by decide +kernel
theorem dX11_keep_46 : decode cX11_keep 46 = .ok (.baload, 1) := by decide +kernel
theorem dX11_keep_47 : decode cX11_keep 47 = .ok (.putfield 117, 3) := by decide +kernel
theorem dX11_keep_50 : decode cX11_keep 50 = .ok (.return_, 1) := by decide +kernel
theorem dX11_plant_0 : decode cX11_plant 0 = .ok (.iload_n 1, 1) := by decide +kernel
theorem dX11_plant_1 : decode cX11_plant 1 = .ok (.invokestatic 85, 3) := by decide +kernel
theorem dX11_plant_4 : decode cX11_plant 4 = .ok (.ifCond .eq 15, 3) := by decide +kernel
theorem dX11_plant_7 : decode cX11_plant 7 = .ok (.iload_n 3, 1) := by decide +kernel
theorem dX11_plant_8 : decode cX11_plant 8 = .ok (.i2l, 1) := by decide +kernel
theorem dX11_plant_9 : decode cX11_plant 9 = .ok (.lconst 0, 1) := by decide +kernel
theorem dX11_plant_10 : decode cX11_plant 10 = .ok (.ldc2_w 120, 3) := by decide +kernel
theorem dX11_plant_13 : decode cX11_plant 13 = .ok (.invokestatic 81, 3) := by decide +kernel
theorem dX11_plant_16 : decode cX11_plant 16 = .ok (.ifCond .ne 6, 3) := by decide +kernel
theorem dX11_plant_19 : decode cX11_plant 19 = .ok (.ldc 91, 2) := by decide +kernel
theorem dX11_plant_21 : decode cX11_plant 21 = .ok (.ireturn, 1) := by decide +kernel
theorem dX11_plant_22 : decode cX11_plant 22 = .ok (.aload_n 0, 1) := by decide +kernel
theorem dX11_plant_23 : decode cX11_plant 23 = .ok (.getfield 101, 3) := by decide +kernel
theorem dX11_plant_26 : decode cX11_plant 26 = .ok (.bipush 40, 2) := by decide +kernel
theorem dX11_plant_28 : decode cX11_plant 28 = .ok (.if_icmp .ne 6, 3) := by decide +kernel
theorem dX11_plant_31 : decode cX11_plant 31 = .ok (.ldc 122, 2) := by decide +kernel
theorem dX11_plant_33 : decode cX11_plant 33 = .ok (.ireturn, 1) := by decide +kernel
theorem dX11_plant_34 : decode cX11_plant 34 = .ok (.aload_n 0, 1) := by decide +kernel
theorem dX11_plant_35 : decode cX11_plant 35 = .ok (.getfield 31, 3) := by decide +kernel
theorem dX11_plant_38 : decode cX11_plant 38 = .ok (.iload_n 1, 1) := by decide +kernel
theorem dX11_plant_39 : decode cX11_plant 39 = .ok (.iaload, 1) := by decide +kernel
theorem dX11_plant_40 : decode cX11_plant 40 = .ok (.ifCond .ne 9, 3) := by decide +kernel
theorem dX11_plant_43 : decode cX11_plant 43 = .ok (.aload_n 0, 1) := by decide +kernel
theorem dX11_plant_44 : decode cX11_plant 44 = .ok (.iconst 1, 1) := by decide +kernel
theorem dX11_plant_45 : decode cX11_plant 45 = .ok (.invokevirtual 92, 3) := by decide +kernel
theorem dX11_plant_48 : decode cX11_plant 48 = .ok (.ireturn, 1) := by decide +kernel
theorem dX11_plant_49 : decode cX11_plant 49 = .ok (.iload_n 2, 1) := by decide +kernel
theorem dX11_plant_50 : decode cX11_plant 50 = .ok (.i2l, 1) := by decide +kernel
theorem dX11_plant_51 : decode cX11_plant 51 = .ok (.lconst 0, 1) := by decide +kernel
theorem dX11_plant_52 : decode cX11_plant 52 = .ok (.aload_n 0, 1) := by decide +kernel
theorem dX11_plant_53 : decode cX11_plant 53 = .ok (.getfield 34, 3) := by decide +kernel
theorem dX11_plant_56 : decode cX11_plant 56 = .ok (.iload_n 1, 1) := by decide +kernel
theorem dX11_plant_57 : decode cX11_plant 57 = .ok (.iaload, 1) := by decide +kernel
theorem dX11_plant_58 : decode cX11_plant 58 = .ok (.iconst 2, 1) := by decide +kernel
theorem dX11_plant_59 : decode cX11_plant 59 = .ok (.isub, 1) := by decide +kernel
theorem dX11_plant_60 : decode cX11_plant 60 = .ok (.i2l, 1) := by decide +kernel
theorem dX11_plant_61 : decode cX11_plant 61 = .ok (.invokestatic 81, 3) := by decide +kernel
theorem dX11_plant_64 : decode cX11_plant 64 = .ok (.ifCond .ne 9, 3) := by decide +kernel
theorem dX11_plant_67 : decode cX11_plant 67 = .ok (.aload_n 0, 1) := by decide +kernel
theorem dX11_plant_68 : decode cX11_plant 68 = .ok (.iconst 2, 1) := by decide +kernel
theorem dX11_plant_69 : decode cX11_plant 69 = .ok (.invokevirtual 92, 3) := by decide +kernel
theorem dX11_plant_72 : decode cX11_plant 72 = .ok (.ireturn, 1) := by decide +kernel
theorem dX11_plant_73 : decode cX11_plant 73 = .ok (.aload_n 0, 1) := by decide +kernel
theorem dX11_plant_74 : decode cX11_plant 74 = .ok (.getfield 37, 3) := by decide +kernel
theorem dX11_plant_77 : decode cX11_plant 77 = .ok (.bipush 100, 2) := by decide +kernel
theorem dX11_plant_79 : decode cX11_plant 79 = .ok (.iload_n 1, 1) := by decide +kernel
theorem dX11_plant_80 : decode cX11_plant 80 = .ok (.imul, 1) := by decide +kernel
theorem dX11_plant_81 : decode cX11_plant 81 = .ok (.iload_n 2, 1) := by decide +kernel
theorem dX11_plant_82 : decode cX11_plant 82 = .ok (.iadd, 1) := by decide +kernel
theorem dX11_plant_83 : decode cX11_plant 83 = .ok (.laload, 1) := by decide +kernel
theorem dX11_plant_84 : decode cX11_plant 84 = .ok (.lstore 4, 2) := by decide +kernel
theorem dX11_plant_86 : decode cX11_plant 86 = .ok (.aload_n 0, 1) := by decide +kernel
theorem dX11_plant_87 : decode cX11_plant 87 = .ok (.getfield 37, 3) := by decide +kernel
theorem dX11_plant_90 : decode cX11_plant 90 = .ok (.bipush 100, 2) := by decide +kernel
theorem dX11_plant_92 : decode cX11_plant 92 = .ok (.iload_n 1, 1) := by decide +kernel
theorem dX11_plant_93 : decode cX11_plant 93 = .ok (.imul, 1) := by decide +kernel
theorem dX11_plant_94 : decode cX11_plant 94 = .ok (.iload_n 2, 1) := by decide +kernel
theorem dX11_plant_95 : decode cX11_plant 95 = .ok (.iadd, 1) := by decide +kernel
theorem dX11_plant_96 : decode cX11_plant 96 = .ok (.iconst 1, 1) := by decide +kernel
theorem dX11_plant_97 : decode cX11_plant 97 = .ok (.iadd, 1) := by decide +kernel
theorem dX11_plant_98 : decode cX11_plant 98 = .ok (.laload, 1) := by decide +kernel
theorem dX11_plant_99 : decode cX11_plant 99 = .ok (.lstore 6, 2) := by decide +kernel
theorem dX11_plant_101 : decode cX11_plant 101 = .ok (.lload 4, 2) := by decide +kernel
theorem dX11_plant_103 : decode cX11_plant 103 = .ok (.ldc2_w 123, 3) := by decide +kernel
theorem dX11_plant_106 : decode cX11_plant 106 = .ok (.ldc2_w 125, 3) := by decide +kernel
theorem dX11_plant_109 : decode cX11_plant 109 = .ok (.invokestatic 81, 3) := by decide +kernel
theorem dX11_plant_112 : decode cX11_plant 112 = .ok (.ifCond .eq 17, 3) := by decide +kernel
theorem dX11_plant_115 : decode cX11_plant 115 = .ok (.lload 6, 2) := by decide +kernel
theorem dX11_plant_117 : decode cX11_plant 117 = .ok (.ldc2_w 123, 3) := by decide +kernel
theorem dX11_plant_120 : decode cX11_plant 120 = .ok (.ldc2_w 125, 3) := by decide +kernel
theorem dX11_plant_123 : decode cX11_plant 123 = .ok (.invokestatic 81, 3) := by decide +kernel
theorem dX11_plant_126 : decode cX11_plant 126 = .ok (.ifCond .ne 6, 3) := by decide +kernel
theorem dX11_plant_129 : decode cX11_plant 129 = .ok (.ldc 91, 2) := by decide +kernel
theorem dX11_plant_131 : decode cX11_plant 131 = .ok (.ireturn, 1) := by decide +kernel
theorem dX11_plant_132 : decode cX11_plant 132 = .ok (.aload_n 0, 1) := by decide +kernel
theorem dX11_plant_133 : decode cX11_plant 133 = .ok (.aload_n 0, 1) := by decide +kernel
theorem dX11_plant_134 : decode cX11_plant 134 = .ok (.getfield 101, 3) := by decide +kernel
theorem dX11_plant_137 : decode cX11_plant 137 = .ok (.iconst 1, 1) := by decide +kernel
theorem dX11_plant_138 : decode cX11_plant 138 = .ok (.invokevirtual 127, 3) := by decide +kernel
theorem dX11_plant_141 : decode cX11_plant 141 = .ok (.aload_n 0, 1) := by decide +kernel
theorem dX11_plant_142 : decode cX11_plant 142 = .ok (.getfield 7, 3) := by decide +kernel
theorem dX11_plant_145 : decode cX11_plant 145 = .ok (.aload_n 0, 1) := by decide +kernel
theorem dX11_plant_146 : decode cX11_plant 146 = .ok (.getfield 101, 3) := by decide +kernel
theorem dX11_plant_149 : decode cX11_plant 149 = .ok (.lload 4, 2) := by decide +kernel
theorem dX11_plant_151 : decode cX11_plant 151 = .ok (.l2i, 1) := by decide +kernel
theorem dX11_plant_152 : decode cX11_plant 152 = .ok (.iastore, 1) := by decide +kernel
theorem dX11_plant_153 : decode cX11_plant 153 = .ok (.aload_n 0, 1) := by decide +kernel
theorem dX11_plant_154 : decode cX11_plant 154 = .ok (.getfield 13, 3) := by decide +kernel
theorem dX11_plant_157 : decode cX11_plant 157 = .ok (.aload_n 0, 1) := by decide +kernel
theorem dX11_plant_158 : decode cX11_plant 158 = .ok (.getfield 101, 3) := by decide +kernel
theorem dX11_plant_161 : decode cX11_plant 161 = .ok (.lload 6, 2) := by decide +kernel
theorem dX11_plant_163 : decode cX11_plant 163 = .ok (.l2i, 1) := by decide +kernel
theorem dX11_plant_164 : decode cX11_plant 164 = .ok (.iastore, 1) := by decide +kernel
theorem dX11_plant_165 : decode cX11_plant 165 = .ok (.aload_n 0, 1) := by decide +kernel
theorem dX11_plant_166 : decode cX11_plant 166 = .ok (.getfield 16, 3) := by decide +kernel
theorem dX11_plant_169 : decode cX11_plant 169 = .ok (.aload_n 0, 1) := by decide +kernel
theorem dX11_plant_170 : decode cX11_plant 170 = .ok (.getfield 101, 3) := by decide +kernel
theorem dX11_plant_173 : decode cX11_plant 173 = .ok (.iload_n 3, 1) := by decide +kernel
theorem dX11_plant_174 : decode cX11_plant 174 = .ok (.iastore, 1) := by decide +kernel
theorem dX11_plant_175 : decode cX11_plant 175 = .ok (.aload_n 0, 1) := by decide +kernel
theorem dX11_plant_176 : decode cX11_plant 176 = .ok (.getfield 19, 3) := by decide +kernel
theorem dX11_plant_179 : decode cX11_plant 179 = .ok (.aload_n 0, 1) := by decide +kernel
theorem dX11_plant_180 : decode cX11_plant 180 = .ok (.getfield 101, 3) := by decide +kernel
theorem dX11_plant_183 : decode cX11_plant 183 = .ok (.iconst 0, 1) := by decide +kernel
theorem dX11_plant_184 : decode cX11_plant 184 = .ok (.iastore, 1) := by decide +kernel
theorem dX11_plant_185 : decode cX11_plant 185 = .ok (.aload_n 0, 1) := by decide +kernel
theorem dX11_plant_186 : decode cX11_plant 186 = .ok (.getfield 22, 3) := by decide +kernel
theorem dX11_plant_189 : decode cX11_plant 189 = .ok (.aload_n 0, 1) := by decide +kernel
theorem dX11_plant_190 : decode cX11_plant 190 = .ok (.getfield 101, 3) := by decide +kernel
theorem dX11_plant_193 : decode cX11_plant 193 = .ok (.iconst 0, 1) := by decide +kernel
theorem dX11_plant_194 : decode cX11_plant 194 = .ok (.bastore, 1) := by decide +kernel
theorem dX11_plant_195 : decode cX11_plant 195 = .ok (.aload_n 0, 1) := by decide +kernel
theorem dX11_plant_196 : decode cX11_plant 196 = .ok (.dup, 1) := by decide +kernel
theorem dX11_plant_197 : decode cX11_plant 197 = .ok (.getfield 101, 3) := by decide +kernel
theorem dX11_plant_200 : decode cX11_plant 200 = .ok (.iconst 1, 1) := by decide +kernel
theorem dX11_plant_201 : decode cX11_plant 201 = .ok (.iadd, 1) := by decide +kernel
theorem dX11_plant_202 : decode cX11_plant 202 = .ok (.putfield 101, 3) := by decide +kernel
theorem dX11_plant_205 : decode cX11_plant 205 = .ok (.aload_n 0, 1) := by decide +kernel
theorem dX11_plant_206 : decode cX11_plant 206 = .ok (.aload_n 0, 1) := by decide +kernel
theorem dX11_plant_207 : decode cX11_plant 207 = .ok (.getfield 101, 3) := by decide +kernel
theorem dX11_plant_210 : decode cX11_plant 210 = .ok (.iconst 1, 1) := by decide +kernel
theorem dX11_plant_211 : decode cX11_plant 211 = .ok (.isub, 1) := by decide +kernel
theorem dX11_plant_212 : decode cX11_plant 212 = .ok (.invokevirtual 96, 3) := by decide +kernel
theorem dX11_plant_215 : decode cX11_plant 215 = .ok (.ireturn, 1) := by decide +kernel
theorem dX11_move_0 : decode cX11_move 0 = .ok (.aload_n 0, 1) := by decide +kernel
theorem dX11_move_1 : decode cX11_move 1 = .ok (.iload_n 1, 1) := by decide +kernel
theorem dX11_move_2 : decode cX11_move 2 = .ok (.invokevirtual 131, 3) := by decide +kernel
theorem dX11_move_5 : decode cX11_move 5 = .ok (.ifCond .ne 6, 3) := by decide +kernel
theorem dX11_move_8 : decode cX11_move 8 = .ok (.ldc 91, 2) := by decide +kernel
theorem dX11_move_10 : decode cX11_move 10 = .ok (.ireturn, 1) := by decide +kernel
theorem dX11_move_11 : decode cX11_move 11 = .ok (.aload_n 0, 1) := by decide +kernel
theorem dX11_move_12 : decode cX11_move 12 = .ok (.getfield 22, 3) := by decide +kernel
theorem dX11_move_15 : decode cX11_move 15 = .ok (.iload_n 1, 1) := by decide +kernel
theorem dX11_move_16 : decode cX11_move 16 = .ok (.baload, 1) := by decide +kernel
theorem dX11_move_17 : decode cX11_move 17 = .ok (.ifCond .eq 9, 3) := by decide +kernel
theorem dX11_move_20 : decode cX11_move 20 = .ok (.aload_n 0, 1) := by decide +kernel
theorem dX11_move_21 : decode cX11_move 21 = .ok (.iconst 1, 1) := by decide +kernel
theorem dX11_move_22 : decode cX11_move 22 = .ok (.invokevirtual 92, 3) := by decide +kernel
theorem dX11_move_25 : decode cX11_move 25 = .ok (.ireturn, 1) := by decide +kernel
theorem dX11_move_26 : decode cX11_move 26 = .ok (.aload_n 0, 1) := by decide +kernel
theorem dX11_move_27 : decode cX11_move 27 = .ok (.getfield 7, 3) := by decide +kernel
theorem dX11_move_30 : decode cX11_move 30 = .ok (.iload_n 1, 1) := by decide +kernel
theorem dX11_move_31 : decode cX11_move 31 = .ok (.iaload, 1) := by decide +kernel
theorem dX11_move_32 : decode cX11_move 32 = .ok (.i2l, 1) := by decide +kernel
theorem dX11_move_33 : decode cX11_move 33 = .ok (.iload_n 2, 1) := by decide +kernel
theorem dX11_move_34 : decode cX11_move 34 = .ok (.i2l, 1) := by decide +kernel
theorem dX11_move_35 : decode cX11_move 35 = .ok (.ladd, 1) := by decide +kernel
theorem dX11_move_36 : decode cX11_move 36 = .ok (.ldc2_w 123, 3) := by decide +kernel
theorem dX11_move_39 : decode cX11_move 39 = .ok (.ldc2_w 125, 3) := by decide +kernel
theorem dX11_move_42 : decode cX11_move 42 = .ok (.invokestatic 81, 3) := by decide +kernel
theorem dX11_move_45 : decode cX11_move 45 = .ok (.ifCond .eq 25, 3) := by decide +kernel
theorem dX11_move_48 : decode cX11_move 48 = .ok (.aload_n 0, 1) := by decide +kernel
theorem dX11_move_49 : decode cX11_move 49 = .ok (.getfield 13, 3) := by decide +kernel
theorem dX11_move_52 : decode cX11_move 52 = .ok (.iload_n 1, 1) := by decide +kernel
theorem dX11_move_53 : decode cX11_move 53 = .ok (.iaload, 1) := by decide +kernel
theorem dX11_move_54 : decode cX11_move 54 = .ok (.i2l, 1) := by decide +kernel
theorem dX11_move_55 : decode cX11_move 55 = .ok (.iload_n 3, 1) := by decide +kernel
theorem dX11_move_56 : decode cX11_move 56 = .ok (.i2l, 1) := by decide +kernel
theorem dX11_move_57 : decode cX11_move 57 = .ok (.ladd, 1) := by decide +kernel
theorem dX11_move_58 : decode cX11_move 58 = .ok (.ldc2_w 123, 3) := by decide +kernel
theorem dX11_move_61 : decode cX11_move 61 = .ok (.ldc2_w 125, 3) := by decide +kernel
theorem dX11_move_64 : decode cX11_move 64 = .ok (.invokestatic 81, 3) := by decide +kernel
theorem dX11_move_67 : decode cX11_move 67 = .ok (.ifCond .ne 6, 3) := by decide +kernel
theorem dX11_move_70 : decode cX11_move 70 = .ok (.ldc 91, 2) := by decide +kernel
theorem dX11_move_72 : decode cX11_move 72 = .ok (.ireturn, 1) := by decide +kernel
theorem dX11_move_73 : decode cX11_move 73 = .ok (.aload_n 0, 1) := by decide +kernel
theorem dX11_move_74 : decode cX11_move 74 = .ok (.iload_n 1, 1) := by decide +kernel
theorem dX11_move_75 : decode cX11_move 75 = .ok (.iconst 0, 1) := by decide +kernel
theorem dX11_move_76 : decode cX11_move 76 = .ok (.invokevirtual 127, 3) := by decide +kernel
theorem dX11_move_79 : decode cX11_move 79 = .ok (.aload_n 0, 1) := by decide +kernel
theorem dX11_move_80 : decode cX11_move 80 = .ok (.getfield 7, 3) := by decide +kernel
theorem dX11_move_83 : decode cX11_move 83 = .ok (.iload_n 1, 1) := by decide +kernel
theorem dX11_move_84 : decode cX11_move 84 = .ok (.dup2, 1) := by decide +kernel
theorem dX11_move_85 : decode cX11_move 85 = .ok (.iaload, 1) := by decide +kernel
theorem dX11_move_86 : decode cX11_move 86 = .ok (.iload_n 2, 1) := by decide +kernel
theorem dX11_move_87 : decode cX11_move 87 = .ok (.iadd, 1) := by decide +kernel
theorem dX11_move_88 : decode cX11_move 88 = .ok (.iastore, 1) := by decide +kernel
theorem dX11_move_89 : decode cX11_move 89 = .ok (.aload_n 0, 1) := by decide +kernel
theorem dX11_move_90 : decode cX11_move 90 = .ok (.getfield 13, 3) := by decide +kernel
theorem dX11_move_93 : decode cX11_move 93 = .ok (.iload_n 1, 1) := by decide +kernel
theorem dX11_move_94 : decode cX11_move 94 = .ok (.dup2, 1) := by decide +kernel
theorem dX11_move_95 : decode cX11_move 95 = .ok (.iaload, 1) := by decide +kernel
theorem dX11_move_96 : decode cX11_move 96 = .ok (.iload_n 3, 1) := by decide +kernel
theorem dX11_move_97 : decode cX11_move 97 = .ok (.iadd, 1) := by decide +kernel
theorem dX11_move_98 : decode cX11_move 98 = .ok (.iastore, 1) := by decide +kernel
theorem dX11_move_99 : decode cX11_move 99 = .ok (.aload_n 0, 1) := by decide +kernel
theorem dX11_move_100 : decode cX11_move 100 = .ok (.iconst 1, 1) := by decide +kernel
theorem dX11_move_101 : decode cX11_move 101 = .ok (.invokevirtual 96, 3) := by decide +kernel
theorem dX11_move_104 : decode cX11_move 104 = .ok (.ireturn, 1) := by decide +kernel
theorem dX11_there_0 : decode cX11_there 0 = .ok (.iconst 0, 1) := by decide +kernel
theorem dX11_there_1 : decode cX11_there 1 = .ok (.istore_n 1, 1) := by decide +kernel
theorem dX11_there_2 : decode cX11_there 2 = .ok (.iconst 0, 1) := by decide +kernel
theorem dX11_there_3 : decode cX11_there 3 = .ok (.istore_n 2, 1) := by decide +kernel
theorem dX11_there_4 : decode cX11_there 4 = .ok (.iload_n 2, 1) := by decide +kernel
theorem dX11_there_5 : decode cX11_there 5 = .ok (.aload_n 0, 1) := by decide +kernel
theorem dX11_there_6 : decode cX11_there 6 = .ok (.getfield 101, 3) := by decide +kernel
theorem dX11_there_9 : decode cX11_there 9 = .ok (.if_icmp .ge 26, 3) := by decide +kernel
theorem dX11_there_12 : decode cX11_there 12 = .ok (.iload_n 1, 1) := by decide +kernel
theorem dX11_there_13 : decode cX11_there 13 = .ok (.aload_n 0, 1) := by decide +kernel
theorem dX11_there_14 : decode cX11_there 14 = .ok (.getfield 22, 3) := by decide +kernel
theorem dX11_there_17 : decode cX11_there 17 = .ok (.iload_n 2, 1) := by decide +kernel
theorem dX11_there_18 : decode cX11_there 18 = .ok (.baload, 1) := by decide +kernel
theorem dX11_there_19 : decode cX11_there 19 = .ok (.ifCond .eq 7, 3) := by decide +kernel
theorem dX11_there_22 : decode cX11_there 22 = .ok (.iconst 0, 1) := by decide +kernel
theorem dX11_there_23 : decode cX11_there 23 = .ok (.goto 4, 3) := by decide +kernel
theorem dX11_there_26 : decode cX11_there 26 = .ok (.iconst 1, 1) := by decide +kernel
theorem dX11_there_27 : decode cX11_there 27 = .ok (.iadd, 1) := by decide +kernel
theorem dX11_there_28 : decode cX11_there 28 = .ok (.istore_n 1, 1) := by decide +kernel
theorem dX11_there_29 : decode cX11_there 29 = .ok (.iinc 2 1, 3) := by decide +kernel
theorem dX11_there_32 : decode cX11_there 32 = .ok (.goto (-28), 3) := by decide +kernel
theorem dX11_there_35 : decode cX11_there 35 = .ok (.iload_n 1, 1) := by decide +kernel
theorem dX11_there_36 : decode cX11_there 36 = .ok (.ireturn, 1) := by decide +kernel
theorem dX11_away_0 : decode cX11_away 0 = .ok (.aload_n 0, 1) := by decide +kernel
theorem dX11_away_1 : decode cX11_away 1 = .ok (.iload_n 1, 1) := by decide +kernel
theorem dX11_away_2 : decode cX11_away 2 = .ok (.invokevirtual 131, 3) := by decide +kernel
theorem dX11_away_5 : decode cX11_away 5 = .ok (.ifCond .ne 6, 3) := by decide +kernel
theorem dX11_away_8 : decode cX11_away 8 = .ok (.ldc 91, 2) := by decide +kernel
theorem dX11_away_10 : decode cX11_away 10 = .ok (.ireturn, 1) := by decide +kernel
theorem dX11_away_11 : decode cX11_away 11 = .ok (.aload_n 0, 1) := by decide +kernel
theorem dX11_away_12 : decode cX11_away 12 = .ok (.getfield 22, 3) := by decide +kernel
theorem dX11_away_15 : decode cX11_away 15 = .ok (.iload_n 1, 1) := by decide +kernel
theorem dX11_away_16 : decode cX11_away 16 = .ok (.baload, 1) := by decide +kernel
theorem dX11_away_17 : decode cX11_away 17 = .ok (.ifCond .eq 9, 3) := by decide +kernel
theorem dX11_away_20 : decode cX11_away 20 = .ok (.aload_n 0, 1) := by decide +kernel
theorem dX11_away_21 : decode cX11_away 21 = .ok (.iconst 1, 1) := by decide +kernel
theorem dX11_away_22 : decode cX11_away 22 = .ok (.invokevirtual 92, 3) := by decide +kernel
theorem dX11_away_25 : decode cX11_away 25 = .ok (.ireturn, 1) := by decide +kernel
theorem dX11_away_26 : decode cX11_away 26 = .ok (.aload_n 0, 1) := by decide +kernel
theorem dX11_away_27 : decode cX11_away 27 = .ok (.iload_n 1, 1) := by decide +kernel
theorem dX11_away_28 : decode cX11_away 28 = .ok (.iconst 0, 1) := by decide +kernel
theorem dX11_away_29 : decode cX11_away 29 = .ok (.invokevirtual 127, 3) := by decide +kernel
theorem dX11_away_32 : decode cX11_away 32 = .ok (.aload_n 0, 1) := by decide +kernel
theorem dX11_away_33 : decode cX11_away 33 = .ok (.getfield 22, 3) := by decide +kernel
theorem dX11_away_36 : decode cX11_away 36 = .ok (.iload_n 1, 1) := by decide +kernel
theorem dX11_away_37 : decode cX11_away 37 = .ok (.iconst 1, 1) := by decide +kernel
theorem dX11_away_38 : decode cX11_away 38 = .ok (.bastore, 1) := by decide +kernel
theorem dX11_away_39 : decode cX11_away 39 = .ok (.aload_n 0, 1) := by decide +kernel
theorem dX11_away_40 : decode cX11_away 40 = .ok (.aload_n 0, 1) := by decide +kernel
theorem dX11_away_41 : decode cX11_away 41 = .ok (.invokevirtual 134, 3) := by decide +kernel
theorem dX11_away_44 : decode cX11_away 44 = .ok (.invokevirtual 96, 3) := by decide +kernel
theorem dX11_away_47 : decode cX11_away 47 = .ok (.ireturn, 1) := by decide +kernel
theorem dX11_colour_0 : decode cX11_colour 0 = .ok (.aload_n 0, 1) := by decide +kernel
theorem dX11_colour_1 : decode cX11_colour 1 = .ok (.iload_n 1, 1) := by decide +kernel
theorem dX11_colour_2 : decode cX11_colour 2 = .ok (.invokevirtual 131, 3) := by decide +kernel
theorem dX11_colour_5 : decode cX11_colour 5 = .ok (.ifCond .eq 15, 3) := by decide +kernel
theorem dX11_colour_8 : decode cX11_colour 8 = .ok (.iload_n 2, 1) := by decide +kernel
theorem dX11_colour_9 : decode cX11_colour 9 = .ok (.i2l, 1) := by decide +kernel
theorem dX11_colour_10 : decode cX11_colour 10 = .ok (.lconst 0, 1) := by decide +kernel
theorem dX11_colour_11 : decode cX11_colour 11 = .ok (.ldc2_w 89, 3) := by decide +kernel
theorem dX11_colour_14 : decode cX11_colour 14 = .ok (.invokestatic 81, 3) := by decide +kernel
theorem dX11_colour_17 : decode cX11_colour 17 = .ok (.ifCond .ne 6, 3) := by decide +kernel
theorem dX11_colour_20 : decode cX11_colour 20 = .ok (.ldc 91, 2) := by decide +kernel
theorem dX11_colour_22 : decode cX11_colour 22 = .ok (.ireturn, 1) := by decide +kernel
theorem dX11_colour_23 : decode cX11_colour 23 = .ok (.aload_n 0, 1) := by decide +kernel
theorem dX11_colour_24 : decode cX11_colour 24 = .ok (.getfield 22, 3) := by decide +kernel
theorem dX11_colour_27 : decode cX11_colour 27 = .ok (.iload_n 1, 1) := by decide +kernel
theorem dX11_colour_28 : decode cX11_colour 28 = .ok (.baload, 1) := by decide +kernel
theorem dX11_colour_29 : decode cX11_colour 29 = .ok (.ifCond .eq 9, 3) := by decide +kernel
theorem dX11_colour_32 : decode cX11_colour 32 = .ok (.aload_n 0, 1) := by decide +kernel
theorem dX11_colour_33 : decode cX11_colour 33 = .ok (.iconst 1, 1) := by decide +kernel
theorem dX11_colour_34 : decode cX11_colour 34 = .ok (.invokevirtual 92, 3) := by decide +kernel
theorem dX11_colour_37 : decode cX11_colour 37 = .ok (.ireturn, 1) := by decide +kernel
theorem dX11_colour_38 : decode cX11_colour 38 = .ok (.aload_n 0, 1) := by decide +kernel
theorem dX11_colour_39 : decode cX11_colour 39 = .ok (.getfield 16, 3) := by decide +kernel
theorem dX11_colour_42 : decode cX11_colour 42 = .ok (.iload_n 1, 1) := by decide +kernel
theorem dX11_colour_43 : decode cX11_colour 43 = .ok (.iaload, 1) := by decide +kernel
theorem dX11_colour_44 : decode cX11_colour 44 = .ok (.iconst 4, 1) := by decide +kernel
theorem dX11_colour_45 : decode cX11_colour 45 = .ok (.if_icmp .eq 9, 3) := by decide +kernel
theorem dX11_colour_48 : decode cX11_colour 48 = .ok (.aload_n 0, 1) := by decide +kernel
theorem dX11_colour_49 : decode cX11_colour 49 = .ok (.iconst 3, 1) := by decide +kernel
theorem dX11_colour_50 : decode cX11_colour 50 = .ok (.invokevirtual 92, 3) := by decide +kernel
theorem dX11_colour_53 : decode cX11_colour 53 = .ok (.ireturn, 1) := by decide +kernel
theorem dX11_colour_54 : decode cX11_colour 54 = .ok (.aload_n 0, 1) := by decide +kernel
theorem dX11_colour_55 : decode cX11_colour 55 = .ok (.iload_n 1, 1) := by decide +kernel
theorem dX11_colour_56 : decode cX11_colour 56 = .ok (.iconst 0, 1) := by decide +kernel
theorem dX11_colour_57 : decode cX11_colour 57 = .ok (.invokevirtual 127, 3) := by decide +kernel
theorem dX11_colour_60 : decode cX11_colour 60 = .ok (.aload_n 0, 1) := by decide +kernel
theorem dX11_colour_61 : decode cX11_colour 61 = .ok (.getfield 19, 3) := by decide +kernel
theorem dX11_colour_64 : decode cX11_colour 64 = .ok (.iload_n 1, 1) := by decide +kernel
theorem dX11_colour_65 : decode cX11_colour 65 = .ok (.iaload, 1) := by decide +kernel
theorem dX11_colour_66 : decode cX11_colour 66 = .ok (.istore_n 3, 1) := by decide +kernel
theorem dX11_colour_67 : decode cX11_colour 67 = .ok (.aload_n 0, 1) := by decide +kernel
theorem dX11_colour_68 : decode cX11_colour 68 = .ok (.getfield 19, 3) := by decide +kernel
theorem dX11_colour_71 : decode cX11_colour 71 = .ok (.iload_n 1, 1) := by decide +kernel
theorem dX11_colour_72 : decode cX11_colour 72 = .ok (.iload_n 2, 1) := by decide +kernel
theorem dX11_colour_73 : decode cX11_colour 73 = .ok (.iastore, 1) := by decide +kernel
theorem dX11_colour_74 : decode cX11_colour 74 = .ok (.aload_n 0, 1) := by decide +kernel
theorem dX11_colour_75 : decode cX11_colour 75 = .ok (.iload_n 3, 1) := by decide +kernel
theorem dX11_colour_76 : decode cX11_colour 76 = .ok (.invokevirtual 96, 3) := by decide +kernel
theorem dX11_colour_79 : decode cX11_colour 79 = .ok (.ireturn, 1) := by decide +kernel
theorem dX11_told_0 : decode cX11_told 0 = .ok (.aload_n 0, 1) := by decide +kernel
theorem dX11_told_1 : decode cX11_told 1 = .ok (.iload_n 1, 1) := by decide +kernel
theorem dX11_told_2 : decode cX11_told 2 = .ok (.invokevirtual 131, 3) := by decide +kernel
theorem dX11_told_5 : decode cX11_told 5 = .ok (.ifCond .eq 15, 3) := by decide +kernel
theorem dX11_told_8 : decode cX11_told 8 = .ok (.iload_n 2, 1) := by decide +kernel
theorem dX11_told_9 : decode cX11_told 9 = .ok (.i2l, 1) := by decide +kernel
theorem dX11_told_10 : decode cX11_told 10 = .ok (.lconst 0, 1) := by decide +kernel
theorem dX11_told_11 : decode cX11_told 11 = .ok (.ldc2_w 138, 3) := by decide +kernel
theorem dX11_told_14 : decode cX11_told 14 = .ok (.invokestatic 81, 3) := by decide +kernel
theorem dX11_told_17 : decode cX11_told 17 = .ok (.ifCond .ne 6, 3) := by decide +kernel
theorem dX11_told_20 : decode cX11_told 20 = .ok (.ldc 91, 2) := by decide +kernel
theorem dX11_told_22 : decode cX11_told 22 = .ok (.ireturn, 1) := by decide +kernel
theorem dX11_told_23 : decode cX11_told 23 = .ok (.aload_n 0, 1) := by decide +kernel
theorem dX11_told_24 : decode cX11_told 24 = .ok (.getfield 22, 3) := by decide +kernel
theorem dX11_told_27 : decode cX11_told 27 = .ok (.iload_n 1, 1) := by decide +kernel
theorem dX11_told_28 : decode cX11_told 28 = .ok (.baload, 1) := by decide +kernel
theorem dX11_told_29 : decode cX11_told 29 = .ok (.ifCond .eq 9, 3) := by decide +kernel
theorem dX11_told_32 : decode cX11_told 32 = .ok (.aload_n 0, 1) := by decide +kernel
theorem dX11_told_33 : decode cX11_told 33 = .ok (.iconst 1, 1) := by decide +kernel
theorem dX11_told_34 : decode cX11_told 34 = .ok (.invokevirtual 92, 3) := by decide +kernel
theorem dX11_told_37 : decode cX11_told 37 = .ok (.ireturn, 1) := by decide +kernel
theorem dX11_told_38 : decode cX11_told 38 = .ok (.iload_n 2, 1) := by decide +kernel
theorem dX11_told_39 : decode cX11_told 39 = .ok (.iconst 3, 1) := by decide +kernel
theorem dX11_told_40 : decode cX11_told 40 = .ok (.if_icmp .ne 8, 3) := by decide +kernel
theorem dX11_told_43 : decode cX11_told 43 = .ok (.aload_n 0, 1) := by decide +kernel
theorem dX11_told_44 : decode cX11_told 44 = .ok (.invokevirtual 140, 3) := by decide +kernel
theorem dX11_told_47 : decode cX11_told 47 = .ok (.istore_n 3, 1) := by decide +kernel
theorem dX11_told_48 : decode cX11_told 48 = .ok (.aload_n 0, 1) := by decide +kernel
theorem dX11_told_49 : decode cX11_told 49 = .ok (.iload_n 2, 1) := by decide +kernel
theorem dX11_told_50 : decode cX11_told 50 = .ok (.ifCond .ne 12, 3) := by decide +kernel
theorem dX11_told_53 : decode cX11_told 53 = .ok (.aload_n 0, 1) := by decide +kernel
theorem dX11_told_54 : decode cX11_told 54 = .ok (.getfield 7, 3) := by decide +kernel
theorem dX11_told_57 : decode cX11_told 57 = .ok (.iload_n 1, 1) := by decide +kernel
theorem dX11_told_58 : decode cX11_told 58 = .ok (.iaload, 1) := by decide +kernel
theorem dX11_told_59 : decode cX11_told 59 = .ok (.goto 37, 3) := by decide +kernel
theorem dX11_told_62 : decode cX11_told 62 = .ok (.iload_n 2, 1) := by decide +kernel
theorem dX11_told_63 : decode cX11_told 63 = .ok (.iconst 1, 1) := by decide +kernel
theorem dX11_told_64 : decode cX11_told 64 = .ok (.if_icmp .ne 12, 3) := by decide +kernel
theorem dX11_told_67 : decode cX11_told 67 = .ok (.aload_n 0, 1) := by decide +kernel
theorem dX11_told_68 : decode cX11_told 68 = .ok (.getfield 13, 3) := by decide +kernel
theorem dX11_told_71 : decode cX11_told 71 = .ok (.iload_n 1, 1) := by decide +kernel
theorem dX11_told_72 : decode cX11_told 72 = .ok (.iaload, 1) := by decide +kernel
theorem dX11_told_73 : decode cX11_told 73 = .ok (.goto 23, 3) := by decide +kernel
theorem dX11_told_76 : decode cX11_told 76 = .ok (.iload_n 2, 1) := by decide +kernel
theorem dX11_told_77 : decode cX11_told 77 = .ok (.iconst 2, 1) := by decide +kernel
theorem dX11_told_78 : decode cX11_told 78 = .ok (.if_icmp .ne 12, 3) := by decide +kernel
theorem dX11_told_81 : decode cX11_told 81 = .ok (.aload_n 0, 1) := by decide +kernel
theorem dX11_told_82 : decode cX11_told 82 = .ok (.getfield 16, 3) := by decide +kernel
theorem dX11_told_85 : decode cX11_told 85 = .ok (.iload_n 1, 1) := by decide +kernel
theorem dX11_told_86 : decode cX11_told 86 = .ok (.iaload, 1) := by decide +kernel
theorem dX11_told_87 : decode cX11_told 87 = .ok (.goto 9, 3) := by decide +kernel
theorem dX11_told_90 : decode cX11_told 90 = .ok (.aload_n 0, 1) := by decide +kernel
theorem dX11_told_91 : decode cX11_told 91 = .ok (.getfield 69, 3) := by decide +kernel
theorem dX11_told_94 : decode cX11_told 94 = .ok (.iload_n 1, 1) := by decide +kernel
theorem dX11_told_95 : decode cX11_told 95 = .ok (.iaload, 1) := by decide +kernel
theorem dX11_told_96 : decode cX11_told 96 = .ok (.invokevirtual 96, 3) := by decide +kernel
theorem dX11_told_99 : decode cX11_told 99 = .ok (.ireturn, 1) := by decide +kernel
theorem dX11_isOf_0 : decode cX11_isOf 0 = .ok (.iload_n 1, 1) := by decide +kernel
theorem dX11_isOf_1 : decode cX11_isOf 1 = .ok (.iload_n 2, 1) := by decide +kernel
theorem dX11_isOf_2 : decode cX11_isOf 2 = .ok (.if_icmp .eq 17, 3) := by decide +kernel
theorem dX11_isOf_5 : decode cX11_isOf 5 = .ok (.iload_n 2, 1) := by decide +kernel
theorem dX11_isOf_6 : decode cX11_isOf 6 = .ok (.ifCond .eq 13, 3) := by decide +kernel
theorem dX11_isOf_9 : decode cX11_isOf 9 = .ok (.iload_n 1, 1) := by decide +kernel
theorem dX11_isOf_10 : decode cX11_isOf 10 = .ok (.iconst 3, 1) := by decide +kernel
theorem dX11_isOf_11 : decode cX11_isOf 11 = .ok (.if_icmp .ne 12, 3) := by decide +kernel
theorem dX11_isOf_14 : decode cX11_isOf 14 = .ok (.iload_n 2, 1) := by decide +kernel
theorem dX11_isOf_15 : decode cX11_isOf 15 = .ok (.iconst 1, 1) := by decide +kernel
theorem dX11_isOf_16 : decode cX11_isOf 16 = .ok (.if_icmp .ne 7, 3) := by decide +kernel
theorem dX11_isOf_19 : decode cX11_isOf 19 = .ok (.iconst 1, 1) := by decide +kernel
theorem dX11_isOf_20 : decode cX11_isOf 20 = .ok (.goto 4, 3) := by decide +kernel
theorem dX11_isOf_23 : decode cX11_isOf 23 = .ok (.iconst 0, 1) := by decide +kernel
theorem dX11_isOf_24 : decode cX11_isOf 24 = .ok (.ireturn, 1) := by decide +kernel
theorem dX11_is_0 : decode cX11_is 0 = .ok (.aload_n 0, 1) := by decide +kernel
theorem dX11_is_1 : decode cX11_is 1 = .ok (.iload_n 1, 1) := by decide +kernel
theorem dX11_is_2 : decode cX11_is 2 = .ok (.invokevirtual 131, 3) := by decide +kernel
theorem dX11_is_5 : decode cX11_is 5 = .ok (.ifCond .eq 15, 3) := by decide +kernel
theorem dX11_is_8 : decode cX11_is 8 = .ok (.iload_n 2, 1) := by decide +kernel
theorem dX11_is_9 : decode cX11_is 9 = .ok (.i2l, 1) := by decide +kernel
theorem dX11_is_10 : decode cX11_is 10 = .ok (.lconst 0, 1) := by decide +kernel
theorem dX11_is_11 : decode cX11_is 11 = .ok (.ldc2_w 120, 3) := by decide +kernel
theorem dX11_is_14 : decode cX11_is 14 = .ok (.invokestatic 81, 3) := by decide +kernel
theorem dX11_is_17 : decode cX11_is 17 = .ok (.ifCond .ne 6, 3) := by decide +kernel
theorem dX11_is_20 : decode cX11_is 20 = .ok (.ldc 91, 2) := by decide +kernel
theorem dX11_is_22 : decode cX11_is 22 = .ok (.ireturn, 1) := by decide +kernel
theorem dX11_is_23 : decode cX11_is 23 = .ok (.aload_n 0, 1) := by decide +kernel
theorem dX11_is_24 : decode cX11_is 24 = .ok (.getfield 22, 3) := by decide +kernel
theorem dX11_is_27 : decode cX11_is 27 = .ok (.iload_n 1, 1) := by decide +kernel
theorem dX11_is_28 : decode cX11_is 28 = .ok (.baload, 1) := by decide +kernel
theorem dX11_is_29 : decode cX11_is 29 = .ok (.ifCond .eq 9, 3) := by decide +kernel
theorem dX11_is_32 : decode cX11_is 32 = .ok (.aload_n 0, 1) := by decide +kernel
theorem dX11_is_33 : decode cX11_is 33 = .ok (.iconst 1, 1) := by decide +kernel
theorem dX11_is_34 : decode cX11_is 34 = .ok (.invokevirtual 92, 3) := by decide +kernel
theorem dX11_is_37 : decode cX11_is 37 = .ok (.ireturn, 1) := by decide +kernel
theorem dX11_is_38 : decode cX11_is 38 = .ok (.aload_n 0, 1) := by decide +kernel
theorem dX11_is_39 : decode cX11_is 39 = .ok (.aload_n 0, 1) := by decide +kernel
theorem dX11_is_40 : decode cX11_is 40 = .ok (.aload_n 0, 1) := by decide +kernel
theorem dX11_is_41 : decode cX11_is 41 = .ok (.getfield 16, 3) := by decide +kernel
theorem dX11_is_44 : decode cX11_is 44 = .ok (.iload_n 1, 1) := by decide +kernel
theorem dX11_is_45 : decode cX11_is 45 = .ok (.iaload, 1) := by decide +kernel
theorem dX11_is_46 : decode cX11_is 46 = .ok (.iload_n 2, 1) := by decide +kernel
theorem dX11_is_47 : decode cX11_is 47 = .ok (.invokevirtual 143, 3) := by decide +kernel
theorem dX11_is_50 : decode cX11_is 50 = .ok (.ifCond .eq 7, 3) := by decide +kernel
theorem dX11_is_53 : decode cX11_is 53 = .ok (.iconst 1, 1) := by decide +kernel
theorem dX11_is_54 : decode cX11_is 54 = .ok (.goto 4, 3) := by decide +kernel
theorem dX11_is_57 : decode cX11_is 57 = .ok (.iconst 0, 1) := by decide +kernel
theorem dX11_is_58 : decode cX11_is 58 = .ok (.invokevirtual 96, 3) := by decide +kernel
theorem dX11_is_61 : decode cX11_is 61 = .ok (.ireturn, 1) := by decide +kernel
theorem dX11_begins_0 : decode cX11_begins 0 = .ok (.aload_n 0, 1) := by decide +kernel
theorem dX11_begins_1 : decode cX11_begins 1 = .ok (.getfield 147, 3) := by decide +kernel
theorem dX11_begins_4 : decode cX11_begins 4 = .ok (.ifCond .eq 32, 3) := by decide +kernel
theorem dX11_begins_7 : decode cX11_begins 7 = .ok (.aload_n 0, 1) := by decide +kernel
theorem dX11_begins_8 : decode cX11_begins 8 = .ok (.getfield 150, 3) := by decide +kernel
theorem dX11_begins_11 : decode cX11_begins 11 = .ok (.bipush 16, 2) := by decide +kernel
theorem dX11_begins_13 : decode cX11_begins 13 = .ok (.if_icmp .ge 23, 3) := by decide +kernel
theorem dX11_begins_16 : decode cX11_begins 16 = .ok (.aload_n 0, 1) := by decide +kernel
theorem dX11_begins_17 : decode cX11_begins 17 = .ok (.getfield 44, 3) := by decide +kernel
theorem dX11_begins_20 : decode cX11_begins 20 = .ok (.aload_n 0, 1) := by decide +kernel
theorem dX11_begins_21 : decode cX11_begins 21 = .ok (.getfield 150, 3) := by decide +kernel
theorem dX11_begins_24 : decode cX11_begins 24 = .ok (.iload_n 1, 1) := by decide +kernel
theorem dX11_begins_25 : decode cX11_begins 25 = .ok (.iastore, 1) := by decide +kernel
theorem dX11_begins_26 : decode cX11_begins 26 = .ok (.aload_n 0, 1) := by decide +kernel
theorem dX11_begins_27 : decode cX11_begins 27 = .ok (.dup, 1) := by decide +kernel
theorem dX11_begins_28 : decode cX11_begins 28 = .ok (.getfield 150, 3) := by decide +kernel
theorem dX11_begins_31 : decode cX11_begins 31 = .ok (.iconst 1, 1) := by decide +kernel
theorem dX11_begins_32 : decode cX11_begins 32 = .ok (.iadd, 1) := by decide +kernel
theorem dX11_begins_33 : decode cX11_begins 33 = .ok (.putfield 150, 3) := by decide +kernel
theorem dX11_begins_36 : decode cX11_begins 36 = .ok (.return_, 1) := by decide +kernel
theorem dX11_red_0 : decode cX11_red 0 = .ok (.aload_n 0, 1) := by decide +kernel
theorem dX11_red_1 : decode cX11_red 1 = .ok (.getfield 16, 3) := by decide +kernel
theorem dX11_red_4 : decode cX11_red 4 = .ok (.iload_n 1, 1) := by decide +kernel
theorem dX11_red_5 : decode cX11_red 5 = .ok (.iaload, 1) := by decide +kernel
theorem dX11_red_6 : decode cX11_red 6 = .ok (.tableswitch 78 1 4 #[30, 78, 38, 52], 30) := by decide +kernel
theorem dX11_red_36 : decode cX11_red 36 = .ok (.aload_n 0, 1) := by decide +kernel
theorem dX11_red_37 : decode cX11_red 37 = .ok (.bipush 11, 2) := by decide +kernel
theorem dX11_red_39 : decode cX11_red 39 = .ok (.invokevirtual 153, 3) := by decide +kernel
theorem dX11_red_42 : decode cX11_red 42 = .ok (.iconst 1, 1) := by decide +kernel
theorem dX11_red_43 : decode cX11_red 43 = .ok (.ireturn, 1) := by decide +kernel
theorem dX11_red_44 : decode cX11_red 44 = .ok (.aload_n 0, 1) := by decide +kernel
theorem dX11_red_45 : decode cX11_red 45 = .ok (.bipush 12, 2) := by decide +kernel
theorem dX11_red_47 : decode cX11_red 47 = .ok (.invokevirtual 153, 3) := by decide +kernel
theorem dX11_red_50 : decode cX11_red 50 = .ok (.aload_n 0, 1) := by decide +kernel
theorem dX11_red_51 : decode cX11_red 51 = .ok (.bipush 11, 2) := by decide +kernel
theorem dX11_red_53 : decode cX11_red 53 = .ok (.invokevirtual 153, 3) := by decide +kernel
theorem dX11_red_56 : decode cX11_red 56 = .ok (.iconst 2, 1) := by decide +kernel
theorem dX11_red_57 : decode cX11_red 57 = .ok (.ireturn, 1) := by decide +kernel
theorem dX11_red_58 : decode cX11_red 58 = .ok (.aload_n 0, 1) := by decide +kernel
theorem dX11_red_59 : decode cX11_red 59 = .ok (.bipush 13, 2) := by decide +kernel
theorem dX11_red_61 : decode cX11_red 61 = .ok (.invokevirtual 153, 3) := by decide +kernel
theorem dX11_red_64 : decode cX11_red 64 = .ok (.aload_n 0, 1) := by decide +kernel
theorem dX11_red_65 : decode cX11_red 65 = .ok (.getfield 19, 3) := by decide +kernel
theorem dX11_red_68 : decode cX11_red 68 = .ok (.iload_n 1, 1) := by decide +kernel
theorem dX11_red_69 : decode cX11_red 69 = .ok (.iaload, 1) := by decide +kernel
theorem dX11_red_70 : decode cX11_red 70 = .ok (.iconst 1, 1) := by decide +kernel
theorem dX11_red_71 : decode cX11_red 71 = .ok (.if_icmp .ne 5, 3) := by decide +kernel
theorem dX11_red_74 : decode cX11_red 74 = .ok (.iconst 1, 1) := by decide +kernel
theorem dX11_red_75 : decode cX11_red 75 = .ok (.ireturn, 1) := by decide +kernel
theorem dX11_red_76 : decode cX11_red 76 = .ok (.aload_n 0, 1) := by decide +kernel
theorem dX11_red_77 : decode cX11_red 77 = .ok (.bipush 10, 2) := by decide +kernel
theorem dX11_red_79 : decode cX11_red 79 = .ok (.invokevirtual 153, 3) := by decide +kernel
theorem dX11_red_82 : decode cX11_red 82 = .ok (.iconst 0, 1) := by decide +kernel
theorem dX11_red_83 : decode cX11_red 83 = .ok (.ireturn, 1) := by decide +kernel
theorem dX11_red_84 : decode cX11_red 84 = .ok (.aload_n 0, 1) := by decide +kernel
end
section
theorem dX11_red_85 : decode cX11_red 85 = .ok (.bipush 10, 2) := by decide +kernel
theorem dX11_red_87 : decode cX11_red 87 = .ok (.invokevirtual 153, 3) := by decide +kernel
theorem dX11_red_90 : decode cX11_red 90 = .ok (.iconst 0, 1) := by decide +kernel
theorem dX11_red_91 : decode cX11_red 91 = .ok (.ireturn, 1) := by decide +kernel
theorem dX11_blue_0 : decode cX11_blue 0 = .ok (.aload_n 0, 1) := by decide +kernel
theorem dX11_blue_1 : decode cX11_blue 1 = .ok (.getfield 16, 3) := by decide +kernel
theorem dX11_blue_4 : decode cX11_blue 4 = .ok (.iload_n 1, 1) := by decide +kernel
theorem dX11_blue_5 : decode cX11_blue 5 = .ok (.iaload, 1) := by decide +kernel
theorem dX11_blue_6 : decode cX11_blue 6 = .ok (.iconst 2, 1) := by decide +kernel
theorem dX11_blue_7 : decode cX11_blue 7 = .ok (.if_icmp .ne 11, 3) := by decide +kernel
theorem dX11_blue_10 : decode cX11_blue 10 = .ok (.aload_n 0, 1) := by decide +kernel
theorem dX11_blue_11 : decode cX11_blue 11 = .ok (.bipush 21, 2) := by decide +kernel
theorem dX11_blue_13 : decode cX11_blue 13 = .ok (.invokevirtual 153, 3) := by decide +kernel
theorem dX11_blue_16 : decode cX11_blue 16 = .ok (.iconst 1, 1) := by decide +kernel
theorem dX11_blue_17 : decode cX11_blue 17 = .ok (.ireturn, 1) := by decide +kernel
theorem dX11_blue_18 : decode cX11_blue 18 = .ok (.aload_n 0, 1) := by decide +kernel
theorem dX11_blue_19 : decode cX11_blue 19 = .ok (.getfield 16, 3) := by decide +kernel
theorem dX11_blue_22 : decode cX11_blue 22 = .ok (.iload_n 1, 1) := by decide +kernel
theorem dX11_blue_23 : decode cX11_blue 23 = .ok (.iaload, 1) := by decide +kernel
theorem dX11_blue_24 : decode cX11_blue 24 = .ok (.iconst 4, 1) := by decide +kernel
theorem dX11_blue_25 : decode cX11_blue 25 = .ok (.if_icmp .ne 21, 3) := by decide +kernel
theorem dX11_blue_28 : decode cX11_blue 28 = .ok (.aload_n 0, 1) := by decide +kernel
theorem dX11_blue_29 : decode cX11_blue 29 = .ok (.bipush 22, 2) := by decide +kernel
theorem dX11_blue_31 : decode cX11_blue 31 = .ok (.invokevirtual 153, 3) := by decide +kernel
theorem dX11_blue_34 : decode cX11_blue 34 = .ok (.aload_n 0, 1) := by decide +kernel
theorem dX11_blue_35 : decode cX11_blue 35 = .ok (.getfield 19, 3) := by decide +kernel
theorem dX11_blue_38 : decode cX11_blue 38 = .ok (.iload_n 1, 1) := by decide +kernel
theorem dX11_blue_39 : decode cX11_blue 39 = .ok (.iaload, 1) := by decide +kernel
theorem dX11_blue_40 : decode cX11_blue 40 = .ok (.iconst 2, 1) := by decide +kernel
theorem dX11_blue_41 : decode cX11_blue 41 = .ok (.if_icmp .ne 5, 3) := by decide +kernel
theorem dX11_blue_44 : decode cX11_blue 44 = .ok (.iconst 1, 1) := by decide +kernel
theorem dX11_blue_45 : decode cX11_blue 45 = .ok (.ireturn, 1) := by decide +kernel
theorem dX11_blue_46 : decode cX11_blue 46 = .ok (.aload_n 0, 1) := by decide +kernel
theorem dX11_blue_47 : decode cX11_blue 47 = .ok (.bipush 20, 2) := by decide +kernel
theorem dX11_blue_49 : decode cX11_blue 49 = .ok (.invokevirtual 153, 3) := by decide +kernel
theorem dX11_blue_52 : decode cX11_blue 52 = .ok (.iconst 0, 1) := by decide +kernel
theorem dX11_blue_53 : decode cX11_blue 53 = .ok (.ireturn, 1) := by decide +kernel
theorem dX11_lentAll_0 : decode cX11_lentAll 0 = .ok (.aload_n 0, 1) := by decide +kernel
theorem dX11_lentAll_1 : decode cX11_lentAll 1 = .ok (.bipush 30, 2) := by decide +kernel
theorem dX11_lentAll_3 : decode cX11_lentAll 3 = .ok (.invokevirtual 153, 3) := by decide +kernel
theorem dX11_lentAll_6 : decode cX11_lentAll 6 = .ok (.aload_n 0, 1) := by decide +kernel
theorem dX11_lentAll_7 : decode cX11_lentAll 7 = .ok (.iload_n 1, 1) := by decide +kernel
theorem dX11_lentAll_8 : decode cX11_lentAll 8 = .ok (.invokevirtual 157, 3) := by decide +kernel
theorem dX11_lentAll_11 : decode cX11_lentAll 11 = .ok (.istore_n 2, 1) := by decide +kernel
theorem dX11_lentAll_12 : decode cX11_lentAll 12 = .ok (.iload_n 2, 1) := by decide +kernel
theorem dX11_lentAll_13 : decode cX11_lentAll 13 = .ok (.aload_n 0, 1) := by decide +kernel
theorem dX11_lentAll_14 : decode cX11_lentAll 14 = .ok (.iload_n 1, 1) := by decide +kernel
theorem dX11_lentAll_15 : decode cX11_lentAll 15 = .ok (.invokevirtual 160, 3) := by decide +kernel
theorem dX11_lentAll_18 : decode cX11_lentAll 18 = .ok (.iadd, 1) := by decide +kernel
theorem dX11_lentAll_19 : decode cX11_lentAll 19 = .ok (.istore_n 3, 1) := by decide +kernel
theorem dX11_lentAll_20 : decode cX11_lentAll 20 = .ok (.iload_n 3, 1) := by decide +kernel
theorem dX11_lentAll_21 : decode cX11_lentAll 21 = .ok (.ifCond .ne 7, 3) := by decide +kernel
theorem dX11_lentAll_24 : decode cX11_lentAll 24 = .ok (.iconst 1, 1) := by decide +kernel
theorem dX11_lentAll_25 : decode cX11_lentAll 25 = .ok (.goto 4, 3) := by decide +kernel
theorem dX11_lentAll_28 : decode cX11_lentAll 28 = .ok (.iload_n 3, 1) := by decide +kernel
theorem dX11_lentAll_29 : decode cX11_lentAll 29 = .ok (.ireturn, 1) := by decide +kernel
theorem dX11_all_0 : decode cX11_all 0 = .ok (.aload_n 0, 1) := by decide +kernel
theorem dX11_all_1 : decode cX11_all 1 = .ok (.getfield 16, 3) := by decide +kernel
theorem dX11_all_4 : decode cX11_all 4 = .ok (.iload_n 1, 1) := by decide +kernel
theorem dX11_all_5 : decode cX11_all 5 = .ok (.iaload, 1) := by decide +kernel
theorem dX11_all_6 : decode cX11_all 6 = .ok (.iconst 3, 1) := by decide +kernel
theorem dX11_all_7 : decode cX11_all 7 = .ok (.if_icmp .ne 17, 3) := by decide +kernel
theorem dX11_all_10 : decode cX11_all 10 = .ok (.aload_n 0, 1) := by decide +kernel
theorem dX11_all_11 : decode cX11_all 11 = .ok (.bipush 31, 2) := by decide +kernel
theorem dX11_all_13 : decode cX11_all 13 = .ok (.invokevirtual 153, 3) := by decide +kernel
theorem dX11_all_16 : decode cX11_all 16 = .ok (.iconst 1, 1) := by decide +kernel
theorem dX11_all_17 : decode cX11_all 17 = .ok (.aload_n 0, 1) := by decide +kernel
theorem dX11_all_18 : decode cX11_all 18 = .ok (.iload_n 1, 1) := by decide +kernel
theorem dX11_all_19 : decode cX11_all 19 = .ok (.invokevirtual 163, 3) := by decide +kernel
theorem dX11_all_22 : decode cX11_all 22 = .ok (.iadd, 1) := by decide +kernel
theorem dX11_all_23 : decode cX11_all 23 = .ok (.ireturn, 1) := by decide +kernel
theorem dX11_all_24 : decode cX11_all 24 = .ok (.aload_n 0, 1) := by decide +kernel
theorem dX11_all_25 : decode cX11_all 25 = .ok (.iload_n 1, 1) := by decide +kernel
theorem dX11_all_26 : decode cX11_all 26 = .ok (.invokevirtual 163, 3) := by decide +kernel
theorem dX11_all_29 : decode cX11_all 29 = .ok (.ireturn, 1) := by decide +kernel
theorem dX11_worth_0 : decode cX11_worth 0 = .ok (.aload_n 0, 1) := by decide +kernel
theorem dX11_worth_1 : decode cX11_worth 1 = .ok (.getfield 16, 3) := by decide +kernel
theorem dX11_worth_4 : decode cX11_worth 4 = .ok (.iload_n 1, 1) := by decide +kernel
theorem dX11_worth_5 : decode cX11_worth 5 = .ok (.iaload, 1) := by decide +kernel
theorem dX11_worth_6 : decode cX11_worth 6 = .ok (.iconst 4, 1) := by decide +kernel
theorem dX11_worth_7 : decode cX11_worth 7 = .ok (.if_icmp .ne 15, 3) := by decide +kernel
theorem dX11_worth_10 : decode cX11_worth 10 = .ok (.aload_n 0, 1) := by decide +kernel
theorem dX11_worth_11 : decode cX11_worth 11 = .ok (.bipush 42, 2) := by decide +kernel
theorem dX11_worth_13 : decode cX11_worth 13 = .ok (.invokevirtual 153, 3) := by decide +kernel
theorem dX11_worth_16 : decode cX11_worth 16 = .ok (.aload_n 0, 1) := by decide +kernel
theorem dX11_worth_17 : decode cX11_worth 17 = .ok (.iload_n 1, 1) := by decide +kernel
theorem dX11_worth_18 : decode cX11_worth 18 = .ok (.invokevirtual 163, 3) := by decide +kernel
theorem dX11_worth_21 : decode cX11_worth 21 = .ok (.ireturn, 1) := by decide +kernel
theorem dX11_worth_22 : decode cX11_worth 22 = .ok (.aload_n 0, 1) := by decide +kernel
theorem dX11_worth_23 : decode cX11_worth 23 = .ok (.getfield 16, 3) := by decide +kernel
theorem dX11_worth_26 : decode cX11_worth 26 = .ok (.iload_n 1, 1) := by decide +kernel
theorem dX11_worth_27 : decode cX11_worth 27 = .ok (.iaload, 1) := by decide +kernel
theorem dX11_worth_28 : decode cX11_worth 28 = .ok (.iconst 2, 1) := by decide +kernel
theorem dX11_worth_29 : decode cX11_worth 29 = .ok (.if_icmp .ne 9, 3) := by decide +kernel
theorem dX11_worth_32 : decode cX11_worth 32 = .ok (.aload_n 0, 1) := by decide +kernel
theorem dX11_worth_33 : decode cX11_worth 33 = .ok (.bipush 41, 2) := by decide +kernel
theorem dX11_worth_35 : decode cX11_worth 35 = .ok (.invokevirtual 153, 3) := by decide +kernel
theorem dX11_worth_38 : decode cX11_worth 38 = .ok (.aload_n 0, 1) := by decide +kernel
theorem dX11_worth_39 : decode cX11_worth 39 = .ok (.bipush 40, 2) := by decide +kernel
theorem dX11_worth_41 : decode cX11_worth 41 = .ok (.invokevirtual 153, 3) := by decide +kernel
theorem dX11_worth_44 : decode cX11_worth 44 = .ok (.bipush 10, 2) := by decide +kernel
theorem dX11_worth_46 : decode cX11_worth 46 = .ok (.aload_n 0, 1) := by decide +kernel
theorem dX11_worth_47 : decode cX11_worth 47 = .ok (.iload_n 1, 1) := by decide +kernel
theorem dX11_worth_48 : decode cX11_worth 48 = .ok (.invokevirtual 166, 3) := by decide +kernel
theorem dX11_worth_51 : decode cX11_worth 51 = .ok (.imul, 1) := by decide +kernel
theorem dX11_worth_52 : decode cX11_worth 52 = .ok (.aload_n 0, 1) := by decide +kernel
theorem dX11_worth_53 : decode cX11_worth 53 = .ok (.getfield 16, 3) := by decide +kernel
theorem dX11_worth_56 : decode cX11_worth 56 = .ok (.iload_n 1, 1) := by decide +kernel
theorem dX11_worth_57 : decode cX11_worth 57 = .ok (.iaload, 1) := by decide +kernel
theorem dX11_worth_58 : decode cX11_worth 58 = .ok (.iconst 2, 1) := by decide +kernel
theorem dX11_worth_59 : decode cX11_worth 59 = .ok (.if_icmp .ne 7, 3) := by decide +kernel
theorem dX11_worth_62 : decode cX11_worth 62 = .ok (.iconst 5, 1) := by decide +kernel
theorem dX11_worth_63 : decode cX11_worth 63 = .ok (.goto 4, 3) := by decide +kernel
theorem dX11_worth_66 : decode cX11_worth 66 = .ok (.iconst 0, 1) := by decide +kernel
theorem dX11_worth_67 : decode cX11_worth 67 = .ok (.isub, 1) := by decide +kernel
theorem dX11_worth_68 : decode cX11_worth 68 = .ok (.ireturn, 1) := by decide +kernel
theorem dX11_asked_0 : decode cX11_asked 0 = .ok (.iload_n 2, 1) := by decide +kernel
theorem dX11_asked_1 : decode cX11_asked 1 = .ok (.ifCond .ne 11, 3) := by decide +kernel
theorem dX11_asked_4 : decode cX11_asked 4 = .ok (.aload_n 0, 1) := by decide +kernel
theorem dX11_asked_5 : decode cX11_asked 5 = .ok (.iload_n 1, 1) := by decide +kernel
theorem dX11_asked_6 : decode cX11_asked 6 = .ok (.invokevirtual 157, 3) := by decide +kernel
theorem dX11_asked_9 : decode cX11_asked 9 = .ok (.goto 34, 3) := by decide +kernel
theorem dX11_asked_12 : decode cX11_asked 12 = .ok (.iload_n 2, 1) := by decide +kernel
theorem dX11_asked_13 : decode cX11_asked 13 = .ok (.iconst 1, 1) := by decide +kernel
theorem dX11_asked_14 : decode cX11_asked 14 = .ok (.if_icmp .ne 11, 3) := by decide +kernel
theorem dX11_asked_17 : decode cX11_asked 17 = .ok (.aload_n 0, 1) := by decide +kernel
theorem dX11_asked_18 : decode cX11_asked 18 = .ok (.iload_n 1, 1) := by decide +kernel
theorem dX11_asked_19 : decode cX11_asked 19 = .ok (.invokevirtual 160, 3) := by decide +kernel
theorem dX11_asked_22 : decode cX11_asked 22 = .ok (.goto 21, 3) := by decide +kernel
theorem dX11_asked_25 : decode cX11_asked 25 = .ok (.iload_n 2, 1) := by decide +kernel
theorem dX11_asked_26 : decode cX11_asked 26 = .ok (.iconst 2, 1) := by decide +kernel
theorem dX11_asked_27 : decode cX11_asked 27 = .ok (.if_icmp .ne 11, 3) := by decide +kernel
theorem dX11_asked_30 : decode cX11_asked 30 = .ok (.aload_n 0, 1) := by decide +kernel
theorem dX11_asked_31 : decode cX11_asked 31 = .ok (.iload_n 1, 1) := by decide +kernel
theorem dX11_asked_32 : decode cX11_asked 32 = .ok (.invokevirtual 166, 3) := by decide +kernel
theorem dX11_asked_35 : decode cX11_asked 35 = .ok (.goto 8, 3) := by decide +kernel
theorem dX11_asked_38 : decode cX11_asked 38 = .ok (.aload_n 0, 1) := by decide +kernel
theorem dX11_asked_39 : decode cX11_asked 39 = .ok (.iload_n 1, 1) := by decide +kernel
theorem dX11_asked_40 : decode cX11_asked 40 = .ok (.invokevirtual 169, 3) := by decide +kernel
theorem dX11_asked_43 : decode cX11_asked 43 = .ok (.ireturn, 1) := by decide +kernel
theorem dX11_ask_0 : decode cX11_ask 0 = .ok (.aload_n 0, 1) := by decide +kernel
theorem dX11_ask_1 : decode cX11_ask 1 = .ok (.iload_n 1, 1) := by decide +kernel
theorem dX11_ask_2 : decode cX11_ask 2 = .ok (.invokevirtual 131, 3) := by decide +kernel
theorem dX11_ask_5 : decode cX11_ask 5 = .ok (.ifCond .eq 15, 3) := by decide +kernel
theorem dX11_ask_8 : decode cX11_ask 8 = .ok (.iload_n 2, 1) := by decide +kernel
theorem dX11_ask_9 : decode cX11_ask 9 = .ok (.i2l, 1) := by decide +kernel
theorem dX11_ask_10 : decode cX11_ask 10 = .ok (.lconst 0, 1) := by decide +kernel
theorem dX11_ask_11 : decode cX11_ask 11 = .ok (.ldc2_w 138, 3) := by decide +kernel
theorem dX11_ask_14 : decode cX11_ask 14 = .ok (.invokestatic 81, 3) := by decide +kernel
theorem dX11_ask_17 : decode cX11_ask 17 = .ok (.ifCond .ne 6, 3) := by decide +kernel
theorem dX11_ask_20 : decode cX11_ask 20 = .ok (.ldc 91, 2) := by decide +kernel
theorem dX11_ask_22 : decode cX11_ask 22 = .ok (.ireturn, 1) := by decide +kernel
theorem dX11_ask_23 : decode cX11_ask 23 = .ok (.aload_n 0, 1) := by decide +kernel
theorem dX11_ask_24 : decode cX11_ask 24 = .ok (.iconst 0, 1) := by decide +kernel
theorem dX11_ask_25 : decode cX11_ask 25 = .ok (.putfield 150, 3) := by decide +kernel
theorem dX11_ask_28 : decode cX11_ask 28 = .ok (.aload_n 0, 1) := by decide +kernel
theorem dX11_ask_29 : decode cX11_ask 29 = .ok (.getfield 22, 3) := by decide +kernel
theorem dX11_ask_32 : decode cX11_ask 32 = .ok (.iload_n 1, 1) := by decide +kernel
theorem dX11_ask_33 : decode cX11_ask 33 = .ok (.baload, 1) := by decide +kernel
theorem dX11_ask_34 : decode cX11_ask 34 = .ok (.ifCond .eq 9, 3) := by decide +kernel
theorem dX11_ask_37 : decode cX11_ask 37 = .ok (.aload_n 0, 1) := by decide +kernel
theorem dX11_ask_38 : decode cX11_ask 38 = .ok (.iconst 1, 1) := by decide +kernel
theorem dX11_ask_39 : decode cX11_ask 39 = .ok (.invokevirtual 92, 3) := by decide +kernel
theorem dX11_ask_42 : decode cX11_ask 42 = .ok (.ireturn, 1) := by decide +kernel
theorem dX11_ask_43 : decode cX11_ask 43 = .ok (.aload_n 0, 1) := by decide +kernel
theorem dX11_ask_44 : decode cX11_ask 44 = .ok (.iconst 1, 1) := by decide +kernel
theorem dX11_ask_45 : decode cX11_ask 45 = .ok (.putfield 147, 3) := by decide +kernel
theorem dX11_ask_48 : decode cX11_ask 48 = .ok (.aload_n 0, 1) := by decide +kernel
theorem dX11_ask_49 : decode cX11_ask 49 = .ok (.iload_n 1, 1) := by decide +kernel
theorem dX11_ask_50 : decode cX11_ask 50 = .ok (.iload_n 2, 1) := by decide +kernel
theorem dX11_ask_51 : decode cX11_ask 51 = .ok (.invokevirtual 172, 3) := by decide +kernel
theorem dX11_ask_54 : decode cX11_ask 54 = .ok (.istore_n 3, 1) := by decide +kernel
theorem dX11_ask_55 : decode cX11_ask 55 = .ok (.aload_n 0, 1) := by decide +kernel
theorem dX11_ask_56 : decode cX11_ask 56 = .ok (.iconst 0, 1) := by decide +kernel
theorem dX11_ask_57 : decode cX11_ask 57 = .ok (.putfield 147, 3) := by decide +kernel
theorem dX11_ask_60 : decode cX11_ask 60 = .ok (.aload_n 0, 1) := by decide +kernel
theorem dX11_ask_61 : decode cX11_ask 61 = .ok (.iload_n 3, 1) := by decide +kernel
theorem dX11_ask_62 : decode cX11_ask 62 = .ok (.invokevirtual 96, 3) := by decide +kernel
theorem dX11_ask_65 : decode cX11_ask 65 = .ok (.ireturn, 1) := by decide +kernel
theorem dX11_trace_0 : decode cX11_trace 0 = .ok (.iload_n 1, 1) := by decide +kernel
theorem dX11_trace_1 : decode cX11_trace 1 = .ok (.i2l, 1) := by decide +kernel
theorem dX11_trace_2 : decode cX11_trace 2 = .ok (.lconst 0, 1) := by decide +kernel
theorem dX11_trace_3 : decode cX11_trace 3 = .ok (.aload_n 0, 1) := by decide +kernel
theorem dX11_trace_4 : decode cX11_trace 4 = .ok (.getfield 150, 3) := by decide +kernel
theorem dX11_trace_7 : decode cX11_trace 7 = .ok (.iconst 1, 1) := by decide +kernel
theorem dX11_trace_8 : decode cX11_trace 8 = .ok (.isub, 1) := by decide +kernel
theorem dX11_trace_9 : decode cX11_trace 9 = .ok (.i2l, 1) := by decide +kernel
theorem dX11_trace_10 : decode cX11_trace 10 = .ok (.invokestatic 81, 3) := by decide +kernel
theorem dX11_trace_13 : decode cX11_trace 13 = .ok (.ifCond .eq 12, 3) := by decide +kernel
theorem dX11_trace_16 : decode cX11_trace 16 = .ok (.aload_n 0, 1) := by decide +kernel
theorem dX11_trace_17 : decode cX11_trace 17 = .ok (.getfield 44, 3) := by decide +kernel
theorem dX11_trace_20 : decode cX11_trace 20 = .ok (.iload_n 1, 1) := by decide +kernel
theorem dX11_trace_21 : decode cX11_trace 21 = .ok (.iaload, 1) := by decide +kernel
theorem dX11_trace_22 : decode cX11_trace 22 = .ok (.goto 5, 3) := by decide +kernel
theorem dX11_trace_25 : decode cX11_trace 25 = .ok (.ldc 26, 2) := by decide +kernel
theorem dX11_trace_27 : decode cX11_trace 27 = .ok (.ireturn, 1) := by decide +kernel
theorem dX11_undo_0 : decode cX11_undo 0 = .ok (.aload_n 0, 1) := by decide +kernel
theorem dX11_undo_1 : decode cX11_undo 1 = .ok (.getfield 27, 3) := by decide +kernel
theorem dX11_undo_4 : decode cX11_undo 4 = .ok (.ifCond .ge 6, 3) := by decide +kernel
theorem dX11_undo_7 : decode cX11_undo 7 = .ok (.ldc 176, 2) := by decide +kernel
theorem dX11_undo_9 : decode cX11_undo 9 = .ok (.ireturn, 1) := by decide +kernel
theorem dX11_undo_10 : decode cX11_undo 10 = .ok (.aload_n 0, 1) := by decide +kernel
theorem dX11_undo_11 : decode cX11_undo 11 = .ok (.getfield 104, 3) := by decide +kernel
theorem dX11_undo_14 : decode cX11_undo 14 = .ok (.ifCond .eq 16, 3) := by decide +kernel
theorem dX11_undo_17 : decode cX11_undo 17 = .ok (.aload_n 0, 1) := by decide +kernel
theorem dX11_undo_18 : decode cX11_undo 18 = .ok (.dup, 1) := by decide +kernel
theorem dX11_undo_19 : decode cX11_undo 19 = .ok (.getfield 101, 3) := by decide +kernel
theorem dX11_undo_22 : decode cX11_undo 22 = .ok (.iconst 1, 1) := by decide +kernel
theorem dX11_undo_23 : decode cX11_undo 23 = .ok (.isub, 1) := by decide +kernel
theorem dX11_undo_24 : decode cX11_undo 24 = .ok (.putfield 101, 3) := by decide +kernel
theorem dX11_undo_27 : decode cX11_undo 27 = .ok (.goto 55, 3) := by decide +kernel
theorem dX11_undo_30 : decode cX11_undo 30 = .ok (.aload_n 0, 1) := by decide +kernel
theorem dX11_undo_31 : decode cX11_undo 31 = .ok (.getfield 7, 3) := by decide +kernel
theorem dX11_undo_34 : decode cX11_undo 34 = .ok (.aload_n 0, 1) := by decide +kernel
theorem dX11_undo_35 : decode cX11_undo 35 = .ok (.getfield 27, 3) := by decide +kernel
theorem dX11_undo_38 : decode cX11_undo 38 = .ok (.aload_n 0, 1) := by decide +kernel
theorem dX11_undo_39 : decode cX11_undo 39 = .ok (.getfield 108, 3) := by decide +kernel
theorem dX11_undo_42 : decode cX11_undo 42 = .ok (.iastore, 1) := by decide +kernel
theorem dX11_undo_43 : decode cX11_undo 43 = .ok (.aload_n 0, 1) := by decide +kernel
theorem dX11_undo_44 : decode cX11_undo 44 = .ok (.getfield 13, 3) := by decide +kernel
theorem dX11_undo_47 : decode cX11_undo 47 = .ok (.aload_n 0, 1) := by decide +kernel
theorem dX11_undo_48 : decode cX11_undo 48 = .ok (.getfield 27, 3) := by decide +kernel
theorem dX11_undo_51 : decode cX11_undo 51 = .ok (.aload_n 0, 1) := by decide +kernel
theorem dX11_undo_52 : decode cX11_undo 52 = .ok (.getfield 111, 3) := by decide +kernel
theorem dX11_undo_55 : decode cX11_undo 55 = .ok (.iastore, 1) := by decide +kernel
theorem dX11_undo_56 : decode cX11_undo 56 = .ok (.aload_n 0, 1) := by decide +kernel
theorem dX11_undo_57 : decode cX11_undo 57 = .ok (.getfield 19, 3) := by decide +kernel
theorem dX11_undo_60 : decode cX11_undo 60 = .ok (.aload_n 0, 1) := by decide +kernel
theorem dX11_undo_61 : decode cX11_undo 61 = .ok (.getfield 27, 3) := by decide +kernel
theorem dX11_undo_64 : decode cX11_undo 64 = .ok (.aload_n 0, 1) := by decide +kernel
theorem dX11_undo_65 : decode cX11_undo 65 = .ok (.getfield 114, 3) := by decide +kernel
theorem dX11_undo_68 : decode cX11_undo 68 = .ok (.iastore, 1) := by decide +kernel
theorem dX11_undo_69 : decode cX11_undo 69 = .ok (.aload_n 0, 1) := by decide +kernel
theorem dX11_undo_70 : decode cX11_undo 70 = .ok (.getfield 22, 3) := by decide +kernel
theorem dX11_undo_73 : decode cX11_undo 73 = .ok (.aload_n 0, 1) := by decide +kernel
theorem dX11_undo_74 : decode cX11_undo 74 = .ok (.getfield 27, 3) := by decide +kernel
theorem dX11_undo_77 : decode cX11_undo 77 = .ok (.aload_n 0, 1) := by decide +kernel
theorem dX11_undo_78 : decode cX11_undo 78 = .ok (.getfield 117, 3) := by decide +kernel
theorem dX11_undo_81 : decode cX11_undo 81 = .ok (.bastore, 1) := by decide +kernel
theorem dX11_undo_82 : decode cX11_undo 82 = .ok (.aload_n 0, 1) := by decide +kernel
theorem dX11_undo_83 : decode cX11_undo 83 = .ok (.ldc 26, 2) := by decide +kernel
theorem dX11_undo_85 : decode cX11_undo 85 = .ok (.putfield 27, 3) := by decide +kernel
theorem dX11_undo_88 : decode cX11_undo 88 = .ok (.iconst 1, 1) := by decide +kernel
theorem dX11_undo_89 : decode cX11_undo 89 = .ok (.ireturn, 1) := by decide +kernel
theorem dX11_divisor_0 : decode cX11_divisor 0 = .ok (.lload_n 0, 1) := by decide +kernel
theorem dX11_divisor_1 : decode cX11_divisor 1 = .ok (.lconst 0, 1) := by decide +kernel
theorem dX11_divisor_2 : decode cX11_divisor 2 = .ok (.lcmp, 1) := by decide +kernel
theorem dX11_divisor_3 : decode cX11_divisor 3 = .ok (.ifCond .ge 8, 3) := by decide +kernel
theorem dX11_divisor_6 : decode cX11_divisor 6 = .ok (.lload_n 0, 1) := by decide +kernel
theorem dX11_divisor_7 : decode cX11_divisor 7 = .ok (.lneg, 1) := by decide +kernel
theorem dX11_divisor_8 : decode cX11_divisor 8 = .ok (.goto 4, 3) := by decide +kernel
theorem dX11_divisor_11 : decode cX11_divisor 11 = .ok (.lload_n 0, 1) := by decide +kernel
theorem dX11_divisor_12 : decode cX11_divisor 12 = .ok (.lstore 4, 2) := by decide +kernel
theorem dX11_divisor_14 : decode cX11_divisor 14 = .ok (.lload_n 2, 1) := by decide +kernel
theorem dX11_divisor_15 : decode cX11_divisor 15 = .ok (.lconst 0, 1) := by decide +kernel
theorem dX11_divisor_16 : decode cX11_divisor 16 = .ok (.lcmp, 1) := by decide +kernel
theorem dX11_divisor_17 : decode cX11_divisor 17 = .ok (.ifCond .ge 8, 3) := by decide +kernel
theorem dX11_divisor_20 : decode cX11_divisor 20 = .ok (.lload_n 2, 1) := by decide +kernel
theorem dX11_divisor_21 : decode cX11_divisor 21 = .ok (.lneg, 1) := by decide +kernel
theorem dX11_divisor_22 : decode cX11_divisor 22 = .ok (.goto 4, 3) := by decide +kernel
theorem dX11_divisor_25 : decode cX11_divisor 25 = .ok (.lload_n 2, 1) := by decide +kernel
theorem dX11_divisor_26 : decode cX11_divisor 26 = .ok (.lstore 6, 2) := by decide +kernel
theorem dX11_divisor_28 : decode cX11_divisor 28 = .ok (.lload 6, 2) := by decide +kernel
theorem dX11_divisor_30 : decode cX11_divisor 30 = .ok (.lconst 0, 1) := by decide +kernel
theorem dX11_divisor_31 : decode cX11_divisor 31 = .ok (.lcmp, 1) := by decide +kernel
theorem dX11_divisor_32 : decode cX11_divisor 32 = .ok (.ifCond .le 21, 3) := by decide +kernel
theorem dX11_divisor_35 : decode cX11_divisor 35 = .ok (.lload 4, 2) := by decide +kernel
theorem dX11_divisor_37 : decode cX11_divisor 37 = .ok (.lload 6, 2) := by decide +kernel
theorem dX11_divisor_39 : decode cX11_divisor 39 = .ok (.lrem, 1) := by decide +kernel
theorem dX11_divisor_40 : decode cX11_divisor 40 = .ok (.lstore 8, 2) := by decide +kernel
theorem dX11_divisor_42 : decode cX11_divisor 42 = .ok (.lload 6, 2) := by decide +kernel
theorem dX11_divisor_44 : decode cX11_divisor 44 = .ok (.lstore 4, 2) := by decide +kernel
theorem dX11_divisor_46 : decode cX11_divisor 46 = .ok (.lload 8, 2) := by decide +kernel
theorem dX11_divisor_48 : decode cX11_divisor 48 = .ok (.lstore 6, 2) := by decide +kernel
theorem dX11_divisor_50 : decode cX11_divisor 50 = .ok (.goto (-22), 3) := by decide +kernel
theorem dX11_divisor_53 : decode cX11_divisor 53 = .ok (.lload 4, 2) := by decide +kernel
theorem dX11_divisor_55 : decode cX11_divisor 55 = .ok (.lreturn, 1) := by decide +kernel
theorem dX11_line_0 : decode cX11_line 0 = .ok (.iload_n 1, 1) := by decide +kernel
theorem dX11_line_1 : decode cX11_line 1 = .ok (.i2l, 1) := by decide +kernel
theorem dX11_line_2 : decode cX11_line 2 = .ok (.ldc2_w 177, 3) := by decide +kernel
theorem dX11_line_5 : decode cX11_line 5 = .ok (.ldc2_w 179, 3) := by decide +kernel
theorem dX11_line_8 : decode cX11_line 8 = .ok (.invokestatic 81, 3) := by decide +kernel
theorem dX11_line_11 : decode cX11_line 11 = .ok (.ifCond .eq 31, 3) := by decide +kernel
theorem dX11_line_14 : decode cX11_line 14 = .ok (.iload_n 2, 1) := by decide +kernel
theorem dX11_line_15 : decode cX11_line 15 = .ok (.i2l, 1) := by decide +kernel
theorem dX11_line_16 : decode cX11_line 16 = .ok (.ldc2_w 177, 3) := by decide +kernel
theorem dX11_line_19 : decode cX11_line 19 = .ok (.ldc2_w 179, 3) := by decide +kernel
theorem dX11_line_22 : decode cX11_line 22 = .ok (.invokestatic 81, 3) := by decide +kernel
theorem dX11_line_25 : decode cX11_line 25 = .ok (.ifCond .eq 17, 3) := by decide +kernel
theorem dX11_line_28 : decode cX11_line 28 = .ok (.iload_n 3, 1) := by decide +kernel
theorem dX11_line_29 : decode cX11_line 29 = .ok (.i2l, 1) := by decide +kernel
theorem dX11_line_30 : decode cX11_line 30 = .ok (.ldc2_w 177, 3) := by decide +kernel
theorem dX11_line_33 : decode cX11_line 33 = .ok (.ldc2_w 179, 3) := by decide +kernel
theorem dX11_line_36 : decode cX11_line 36 = .ok (.invokestatic 81, 3) := by decide +kernel
theorem dX11_line_39 : decode cX11_line 39 = .ok (.ifCond .ne 6, 3) := by decide +kernel
theorem dX11_line_42 : decode cX11_line 42 = .ok (.ldc 91, 2) := by decide +kernel
theorem dX11_line_44 : decode cX11_line 44 = .ok (.ireturn, 1) := by decide +kernel
theorem dX11_line_45 : decode cX11_line 45 = .ok (.iload_n 1, 1) := by decide +kernel
theorem dX11_line_46 : decode cX11_line 46 = .ok (.ifCond .ne 10, 3) := by decide +kernel
theorem dX11_line_49 : decode cX11_line 49 = .ok (.iload_n 2, 1) := by decide +kernel
theorem dX11_line_50 : decode cX11_line 50 = .ok (.ifCond .ne 6, 3) := by decide +kernel
theorem dX11_line_53 : decode cX11_line 53 = .ok (.ldc 176, 2) := by decide +kernel
theorem dX11_line_55 : decode cX11_line 55 = .ok (.ireturn, 1) := by decide +kernel
theorem dX11_line_56 : decode cX11_line 56 = .ok (.iload_n 1, 1) := by decide +kernel
theorem dX11_line_57 : decode cX11_line 57 = .ok (.i2l, 1) := by decide +kernel
theorem dX11_line_58 : decode cX11_line 58 = .ok (.iload_n 2, 1) := by decide +kernel
theorem dX11_line_59 : decode cX11_line 59 = .ok (.i2l, 1) := by decide +kernel
theorem dX11_line_60 : decode cX11_line 60 = .ok (.invokestatic 181, 3) := by decide +kernel
theorem dX11_line_63 : decode cX11_line 63 = .ok (.iload_n 3, 1) := by decide +kernel
theorem dX11_line_64 : decode cX11_line 64 = .ok (.i2l, 1) := by decide +kernel
theorem dX11_line_65 : decode cX11_line 65 = .ok (.invokestatic 181, 3) := by decide +kernel
theorem dX11_line_68 : decode cX11_line 68 = .ok (.lstore 4, 2) := by decide +kernel
theorem dX11_line_70 : decode cX11_line 70 = .ok (.aload_n 0, 1) := by decide +kernel
theorem dX11_line_71 : decode cX11_line 71 = .ok (.iload_n 1, 1) := by decide +kernel
theorem dX11_line_72 : decode cX11_line 72 = .ok (.i2l, 1) := by decide +kernel
theorem dX11_line_73 : decode cX11_line 73 = .ok (.lload 4, 2) := by decide +kernel
theorem dX11_line_75 : decode cX11_line 75 = .ok (.ldiv, 1) := by decide +kernel
theorem dX11_line_76 : decode cX11_line 76 = .ok (.putfield 185, 3) := by decide +kernel
theorem dX11_line_79 : decode cX11_line 79 = .ok (.aload_n 0, 1) := by decide +kernel
theorem dX11_line_80 : decode cX11_line 80 = .ok (.iload_n 2, 1) := by decide +kernel
theorem dX11_line_81 : decode cX11_line 81 = .ok (.i2l, 1) := by decide +kernel
theorem dX11_line_82 : decode cX11_line 82 = .ok (.lload 4, 2) := by decide +kernel
theorem dX11_line_84 : decode cX11_line 84 = .ok (.ldiv, 1) := by decide +kernel
theorem dX11_line_85 : decode cX11_line 85 = .ok (.putfield 47, 3) := by decide +kernel
theorem dX11_line_88 : decode cX11_line 88 = .ok (.aload_n 0, 1) := by decide +kernel
theorem dX11_line_89 : decode cX11_line 89 = .ok (.iload_n 3, 1) := by decide +kernel
theorem dX11_line_90 : decode cX11_line 90 = .ok (.i2l, 1) := by decide +kernel
theorem dX11_line_91 : decode cX11_line 91 = .ok (.lload 4, 2) := by decide +kernel
theorem dX11_line_93 : decode cX11_line 93 = .ok (.ldiv, 1) := by decide +kernel
theorem dX11_line_94 : decode cX11_line 94 = .ok (.putfield 188, 3) := by decide +kernel
theorem dX11_line_97 : decode cX11_line 97 = .ok (.iconst 1, 1) := by decide +kernel
theorem dX11_line_98 : decode cX11_line 98 = .ok (.ireturn, 1) := by decide +kernel
theorem dX11_isApart_0 : decode cX11_isApart 0 = .ok (.aload_n 0, 1) := by decide +kernel
theorem dX11_isApart_1 : decode cX11_isApart 1 = .ok (.getfield 7, 3) := by decide +kernel
theorem dX11_isApart_4 : decode cX11_isApart 4 = .ok (.iload_n 1, 1) := by decide +kernel
theorem dX11_isApart_5 : decode cX11_isApart 5 = .ok (.iaload, 1) := by decide +kernel
theorem dX11_isApart_6 : decode cX11_isApart 6 = .ok (.aload_n 0, 1) := by decide +kernel
theorem dX11_isApart_7 : decode cX11_isApart 7 = .ok (.getfield 7, 3) := by decide +kernel
theorem dX11_isApart_10 : decode cX11_isApart 10 = .ok (.iload_n 2, 1) := by decide +kernel
theorem dX11_isApart_11 : decode cX11_isApart 11 = .ok (.iaload, 1) := by decide +kernel
theorem dX11_isApart_12 : decode cX11_isApart 12 = .ok (.if_icmp .ne 18, 3) := by decide +kernel
theorem dX11_isApart_15 : decode cX11_isApart 15 = .ok (.aload_n 0, 1) := by decide +kernel
theorem dX11_isApart_16 : decode cX11_isApart 16 = .ok (.getfield 13, 3) := by decide +kernel
theorem dX11_isApart_19 : decode cX11_isApart 19 = .ok (.iload_n 1, 1) := by decide +kernel
theorem dX11_isApart_20 : decode cX11_isApart 20 = .ok (.iaload, 1) := by decide +kernel
theorem dX11_isApart_21 : decode cX11_isApart 21 = .ok (.aload_n 0, 1) := by decide +kernel
theorem dX11_isApart_22 : decode cX11_isApart 22 = .ok (.getfield 13, 3) := by decide +kernel
theorem dX11_isApart_25 : decode cX11_isApart 25 = .ok (.iload_n 2, 1) := by decide +kernel
theorem dX11_isApart_26 : decode cX11_isApart 26 = .ok (.iaload, 1) := by decide +kernel
theorem dX11_isApart_27 : decode cX11_isApart 27 = .ok (.if_icmp .eq 7, 3) := by decide +kernel
theorem dX11_isApart_30 : decode cX11_isApart 30 = .ok (.iconst 1, 1) := by decide +kernel
theorem dX11_isApart_31 : decode cX11_isApart 31 = .ok (.goto 4, 3) := by decide +kernel
theorem dX11_isApart_34 : decode cX11_isApart 34 = .ok (.iconst 0, 1) := by decide +kernel
theorem dX11_isApart_35 : decode cX11_isApart 35 = .ok (.ireturn, 1) := by decide +kernel
theorem dX11_look_0 : decode cX11_look 0 = .ok (.aload_n 0, 1) := by decide +kernel
theorem dX11_look_1 : decode cX11_look 1 = .ok (.aload_n 0, 1) := by decide +kernel
theorem dX11_look_2 : decode cX11_look 2 = .ok (.getfield 13, 3) := by decide +kernel
theorem dX11_look_5 : decode cX11_look 5 = .ok (.iload_n 1, 1) := by decide +kernel
theorem dX11_look_6 : decode cX11_look 6 = .ok (.iaload, 1) := by decide +kernel
theorem dX11_look_7 : decode cX11_look 7 = .ok (.aload_n 0, 1) := by decide +kernel
theorem dX11_look_8 : decode cX11_look 8 = .ok (.getfield 13, 3) := by decide +kernel
theorem dX11_look_11 : decode cX11_look 11 = .ok (.iload_n 2, 1) := by decide +kernel
theorem dX11_look_12 : decode cX11_look 12 = .ok (.iaload, 1) := by decide +kernel
theorem dX11_look_13 : decode cX11_look 13 = .ok (.isub, 1) := by decide +kernel
theorem dX11_look_14 : decode cX11_look 14 = .ok (.i2l, 1) := by decide +kernel
theorem dX11_look_15 : decode cX11_look 15 = .ok (.putfield 191, 3) := by decide +kernel
theorem dX11_look_18 : decode cX11_look 18 = .ok (.aload_n 0, 1) := by decide +kernel
theorem dX11_look_19 : decode cX11_look 19 = .ok (.aload_n 0, 1) := by decide +kernel
theorem dX11_look_20 : decode cX11_look 20 = .ok (.getfield 7, 3) := by decide +kernel
theorem dX11_look_23 : decode cX11_look 23 = .ok (.iload_n 2, 1) := by decide +kernel
theorem dX11_look_24 : decode cX11_look 24 = .ok (.iaload, 1) := by decide +kernel
theorem dX11_look_25 : decode cX11_look 25 = .ok (.aload_n 0, 1) := by decide +kernel
theorem dX11_look_26 : decode cX11_look 26 = .ok (.getfield 7, 3) := by decide +kernel
theorem dX11_look_29 : decode cX11_look 29 = .ok (.iload_n 1, 1) := by decide +kernel
theorem dX11_look_30 : decode cX11_look 30 = .ok (.iaload, 1) := by decide +kernel
theorem dX11_look_31 : decode cX11_look 31 = .ok (.isub, 1) := by decide +kernel
theorem dX11_look_32 : decode cX11_look 32 = .ok (.i2l, 1) := by decide +kernel
theorem dX11_look_33 : decode cX11_look 33 = .ok (.putfield 194, 3) := by decide +kernel
theorem dX11_look_36 : decode cX11_look 36 = .ok (.aload_n 0, 1) := by decide +kernel
theorem dX11_look_37 : decode cX11_look 37 = .ok (.aload_n 0, 1) := by decide +kernel
theorem dX11_look_38 : decode cX11_look 38 = .ok (.getfield 7, 3) := by decide +kernel
theorem dX11_look_41 : decode cX11_look 41 = .ok (.iload_n 1, 1) := by decide +kernel
theorem dX11_look_42 : decode cX11_look 42 = .ok (.iaload, 1) := by decide +kernel
theorem dX11_look_43 : decode cX11_look 43 = .ok (.i2l, 1) := by decide +kernel
theorem dX11_look_44 : decode cX11_look 44 = .ok (.aload_n 0, 1) := by decide +kernel
theorem dX11_look_45 : decode cX11_look 45 = .ok (.getfield 13, 3) := by decide +kernel
theorem dX11_look_48 : decode cX11_look 48 = .ok (.iload_n 2, 1) := by decide +kernel
theorem dX11_look_49 : decode cX11_look 49 = .ok (.iaload, 1) := by decide +kernel
theorem dX11_look_50 : decode cX11_look 50 = .ok (.i2l, 1) := by decide +kernel
theorem dX11_look_51 : decode cX11_look 51 = .ok (.lmul, 1) := by decide +kernel
theorem dX11_look_52 : decode cX11_look 52 = .ok (.aload_n 0, 1) := by decide +kernel
theorem dX11_look_53 : decode cX11_look 53 = .ok (.getfield 7, 3) := by decide +kernel
theorem dX11_look_56 : decode cX11_look 56 = .ok (.iload_n 2, 1) := by decide +kernel
theorem dX11_look_57 : decode cX11_look 57 = .ok (.iaload, 1) := by decide +kernel
theorem dX11_look_58 : decode cX11_look 58 = .ok (.i2l, 1) := by decide +kernel
theorem dX11_look_59 : decode cX11_look 59 = .ok (.aload_n 0, 1) := by decide +kernel
theorem dX11_look_60 : decode cX11_look 60 = .ok (.getfield 13, 3) := by decide +kernel
theorem dX11_look_63 : decode cX11_look 63 = .ok (.iload_n 1, 1) := by decide +kernel
theorem dX11_look_64 : decode cX11_look 64 = .ok (.iaload, 1) := by decide +kernel
theorem dX11_look_65 : decode cX11_look 65 = .ok (.i2l, 1) := by decide +kernel
theorem dX11_look_66 : decode cX11_look 66 = .ok (.lmul, 1) := by decide +kernel
theorem dX11_look_67 : decode cX11_look 67 = .ok (.lsub, 1) := by decide +kernel
theorem dX11_look_68 : decode cX11_look 68 = .ok (.putfield 197, 3) := by decide +kernel
theorem dX11_look_71 : decode cX11_look 71 = .ok (.aload_n 0, 1) := by decide +kernel
theorem dX11_look_72 : decode cX11_look 72 = .ok (.getfield 191, 3) := by decide +kernel
theorem dX11_look_75 : decode cX11_look 75 = .ok (.aload_n 0, 1) := by decide +kernel
theorem dX11_look_76 : decode cX11_look 76 = .ok (.getfield 194, 3) := by decide +kernel
theorem dX11_look_79 : decode cX11_look 79 = .ok (.invokestatic 181, 3) := by decide +kernel
theorem dX11_look_82 : decode cX11_look 82 = .ok (.aload_n 0, 1) := by decide +kernel
theorem dX11_look_83 : decode cX11_look 83 = .ok (.getfield 197, 3) := by decide +kernel
theorem dX11_look_86 : decode cX11_look 86 = .ok (.invokestatic 181, 3) := by decide +kernel
theorem dX11_look_89 : decode cX11_look 89 = .ok (.lstore_n 3, 1) := by decide +kernel
theorem dX11_look_90 : decode cX11_look 90 = .ok (.aload_n 0, 1) := by decide +kernel
theorem dX11_look_91 : decode cX11_look 91 = .ok (.getfield 191, 3) := by decide +kernel
theorem dX11_look_94 : decode cX11_look 94 = .ok (.lconst 0, 1) := by decide +kernel
theorem dX11_look_95 : decode cX11_look 95 = .ok (.lcmp, 1) := by decide +kernel
theorem dX11_look_96 : decode cX11_look 96 = .ok (.ifCond .lt 21, 3) := by decide +kernel
theorem dX11_look_99 : decode cX11_look 99 = .ok (.aload_n 0, 1) := by decide +kernel
theorem dX11_look_100 : decode cX11_look 100 = .ok (.getfield 191, 3) := by decide +kernel
theorem dX11_look_103 : decode cX11_look 103 = .ok (.lconst 0, 1) := by decide +kernel
theorem dX11_look_104 : decode cX11_look 104 = .ok (.lcmp, 1) := by decide +kernel
theorem dX11_look_105 : decode cX11_look 105 = .ok (.ifCond .ne 15, 3) := by decide +kernel
theorem dX11_look_108 : decode cX11_look 108 = .ok (.aload_n 0, 1) := by decide +kernel
theorem dX11_look_109 : decode cX11_look 109 = .ok (.getfield 194, 3) := by decide +kernel
theorem dX11_look_112 : decode cX11_look 112 = .ok (.lconst 0, 1) := by decide +kernel
theorem dX11_look_113 : decode cX11_look 113 = .ok (.lcmp, 1) := by decide +kernel
theorem dX11_look_114 : decode cX11_look 114 = .ok (.ifCond .ge 6, 3) := by decide +kernel
theorem dX11_look_117 : decode cX11_look 117 = .ok (.lload_n 3, 1) := by decide +kernel
theorem dX11_look_118 : decode cX11_look 118 = .ok (.lneg, 1) := by decide +kernel
theorem dX11_look_119 : decode cX11_look 119 = .ok (.lstore_n 3, 1) := by decide +kernel
theorem dX11_look_120 : decode cX11_look 120 = .ok (.aload_n 0, 1) := by decide +kernel
theorem dX11_look_121 : decode cX11_look 121 = .ok (.dup, 1) := by decide +kernel
theorem dX11_look_122 : decode cX11_look 122 = .ok (.getfield 191, 3) := by decide +kernel
theorem dX11_look_125 : decode cX11_look 125 = .ok (.lload_n 3, 1) := by decide +kernel
theorem dX11_look_126 : decode cX11_look 126 = .ok (.ldiv, 1) := by decide +kernel
theorem dX11_look_127 : decode cX11_look 127 = .ok (.putfield 191, 3) := by decide +kernel
theorem dX11_look_130 : decode cX11_look 130 = .ok (.aload_n 0, 1) := by decide +kernel
theorem dX11_look_131 : decode cX11_look 131 = .ok (.dup, 1) := by decide +kernel
theorem dX11_look_132 : decode cX11_look 132 = .ok (.getfield 194, 3) := by decide +kernel
theorem dX11_look_135 : decode cX11_look 135 = .ok (.lload_n 3, 1) := by decide +kernel
theorem dX11_look_136 : decode cX11_look 136 = .ok (.ldiv, 1) := by decide +kernel
theorem dX11_look_137 : decode cX11_look 137 = .ok (.putfield 194, 3) := by decide +kernel
theorem dX11_look_140 : decode cX11_look 140 = .ok (.aload_n 0, 1) := by decide +kernel
theorem dX11_look_141 : decode cX11_look 141 = .ok (.dup, 1) := by decide +kernel
theorem dX11_look_142 : decode cX11_look 142 = .ok (.getfield 197, 3) := by decide +kernel
theorem dX11_look_145 : decode cX11_look 145 = .ok (.lload_n 3, 1) := by decide +kernel
theorem dX11_look_146 : decode cX11_look 146 = .ok (.ldiv, 1) := by decide +kernel
theorem dX11_look_147 : decode cX11_look 147 = .ok (.putfield 197, 3) := by decide +kernel
theorem dX11_look_150 : decode cX11_look 150 = .ok (.return_, 1) := by decide +kernel
theorem dX11_at_0 : decode cX11_at 0 = .ok (.aload_n 0, 1) := by decide +kernel
theorem dX11_at_1 : decode cX11_at 1 = .ok (.getfield 191, 3) := by decide +kernel
theorem dX11_at_4 : decode cX11_at 4 = .ok (.aload_n 0, 1) := by decide +kernel
theorem dX11_at_5 : decode cX11_at 5 = .ok (.getfield 7, 3) := by decide +kernel
theorem dX11_at_8 : decode cX11_at 8 = .ok (.iload_n 1, 1) := by decide +kernel
theorem dX11_at_9 : decode cX11_at 9 = .ok (.iaload, 1) := by decide +kernel
theorem dX11_at_10 : decode cX11_at 10 = .ok (.i2l, 1) := by decide +kernel
theorem dX11_at_11 : decode cX11_at 11 = .ok (.lmul, 1) := by decide +kernel
theorem dX11_at_12 : decode cX11_at 12 = .ok (.aload_n 0, 1) := by decide +kernel
theorem dX11_at_13 : decode cX11_at 13 = .ok (.getfield 194, 3) := by decide +kernel
theorem dX11_at_16 : decode cX11_at 16 = .ok (.aload_n 0, 1) := by decide +kernel
theorem dX11_at_17 : decode cX11_at 17 = .ok (.getfield 13, 3) := by decide +kernel
theorem dX11_at_20 : decode cX11_at 20 = .ok (.iload_n 1, 1) := by decide +kernel
theorem dX11_at_21 : decode cX11_at 21 = .ok (.iaload, 1) := by decide +kernel
theorem dX11_at_22 : decode cX11_at 22 = .ok (.i2l, 1) := by decide +kernel
theorem dX11_at_23 : decode cX11_at 23 = .ok (.lmul, 1) := by decide +kernel
theorem dX11_at_24 : decode cX11_at 24 = .ok (.ladd, 1) := by decide +kernel
theorem dX11_at_25 : decode cX11_at 25 = .ok (.aload_n 0, 1) := by decide +kernel
theorem dX11_at_26 : decode cX11_at 26 = .ok (.getfield 197, 3) := by decide +kernel
theorem dX11_at_29 : decode cX11_at 29 = .ok (.ladd, 1) := by decide +kernel
theorem dX11_at_30 : decode cX11_at 30 = .ok (.lreturn, 1) := by decide +kernel
theorem dX11_lookAtLine_0 : decode cX11_lookAtLine 0 = .ok (.aload_n 0, 1) := by decide +kernel
theorem dX11_lookAtLine_1 : decode cX11_lookAtLine 1 = .ok (.aload_n 0, 1) := by decide +kernel
theorem dX11_lookAtLine_2 : decode cX11_lookAtLine 2 = .ok (.getfield 185, 3) := by decide +kernel
theorem dX11_lookAtLine_5 : decode cX11_lookAtLine 5 = .ok (.putfield 191, 3) := by decide +kernel
theorem dX11_lookAtLine_8 : decode cX11_lookAtLine 8 = .ok (.aload_n 0, 1) := by decide +kernel
theorem dX11_lookAtLine_9 : decode cX11_lookAtLine 9 = .ok (.aload_n 0, 1) := by decide +kernel
theorem dX11_lookAtLine_10 : decode cX11_lookAtLine 10 = .ok (.getfield 47, 3) := by decide +kernel
theorem dX11_lookAtLine_13 : decode cX11_lookAtLine 13 = .ok (.putfield 194, 3) := by decide +kernel
theorem dX11_lookAtLine_16 : decode cX11_lookAtLine 16 = .ok (.aload_n 0, 1) := by decide +kernel
theorem dX11_lookAtLine_17 : decode cX11_lookAtLine 17 = .ok (.aload_n 0, 1) := by decide +kernel
theorem dX11_lookAtLine_18 : decode cX11_lookAtLine 18 = .ok (.getfield 188, 3) := by decide +kernel
theorem dX11_lookAtLine_21 : decode cX11_lookAtLine 21 = .ok (.putfield 197, 3) := by decide +kernel
theorem dX11_lookAtLine_24 : decode cX11_lookAtLine 24 = .ok (.return_, 1) := by decide +kernel
theorem dX11_putLine_0 : decode cX11_putLine 0 = .ok (.aload_n 0, 1) := by decide +kernel
theorem dX11_putLine_1 : decode cX11_putLine 1 = .ok (.aload_n 0, 1) := by decide +kernel
theorem dX11_putLine_2 : decode cX11_putLine 2 = .ok (.getfield 191, 3) := by decide +kernel
theorem dX11_putLine_5 : decode cX11_putLine 5 = .ok (.putfield 185, 3) := by decide +kernel
theorem dX11_putLine_8 : decode cX11_putLine 8 = .ok (.aload_n 0, 1) := by decide +kernel
theorem dX11_putLine_9 : decode cX11_putLine 9 = .ok (.aload_n 0, 1) := by decide +kernel
theorem dX11_putLine_10 : decode cX11_putLine 10 = .ok (.getfield 194, 3) := by decide +kernel
theorem dX11_putLine_13 : decode cX11_putLine 13 = .ok (.putfield 47, 3) := by decide +kernel
theorem dX11_putLine_16 : decode cX11_putLine 16 = .ok (.aload_n 0, 1) := by decide +kernel
theorem dX11_putLine_17 : decode cX11_putLine 17 = .ok (.aload_n 0, 1) := by decide +kernel
theorem dX11_putLine_18 : decode cX11_putLine 18 = .ok (.getfield 197, 3) := by decide +kernel
theorem dX11_putLine_21 : decode cX11_putLine 21 = .ok (.putfield 188, 3) := by decide +kernel
theorem dX11_putLine_24 : decode cX11_putLine 24 = .ok (.return_, 1) := by decide +kernel
theorem dX11_through_0 : decode cX11_through 0 = .ok (.aload_n 0, 1) := by decide +kernel
theorem dX11_through_1 : decode cX11_through 1 = .ok (.iload_n 1, 1) := by decide +kernel
theorem dX11_through_2 : decode cX11_through 2 = .ok (.invokevirtual 131, 3) := by decide +kernel
theorem dX11_through_5 : decode cX11_through 5 = .ok (.ifCond .eq 11, 3) := by decide +kernel
theorem dX11_through_8 : decode cX11_through 8 = .ok (.aload_n 0, 1) := by decide +kernel
theorem dX11_through_9 : decode cX11_through 9 = .ok (.iload_n 2, 1) := by decide +kernel
theorem dX11_through_10 : decode cX11_through 10 = .ok (.invokevirtual 131, 3) := by decide +kernel
theorem dX11_through_13 : decode cX11_through 13 = .ok (.ifCond .ne 6, 3) := by decide +kernel
theorem dX11_through_16 : decode cX11_through 16 = .ok (.ldc 91, 2) := by decide +kernel
theorem dX11_through_18 : decode cX11_through 18 = .ok (.ireturn, 1) := by decide +kernel
theorem dX11_through_19 : decode cX11_through 19 = .ok (.aload_n 0, 1) := by decide +kernel
theorem dX11_through_20 : decode cX11_through 20 = .ok (.getfield 22, 3) := by decide +kernel
theorem dX11_through_23 : decode cX11_through 23 = .ok (.iload_n 1, 1) := by decide +kernel
theorem dX11_through_24 : decode cX11_through 24 = .ok (.baload, 1) := by decide +kernel
theorem dX11_through_25 : decode cX11_through 25 = .ok (.ifCond .ne 12, 3) := by decide +kernel
theorem dX11_through_28 : decode cX11_through 28 = .ok (.aload_n 0, 1) := by decide +kernel
theorem dX11_through_29 : decode cX11_through 29 = .ok (.getfield 22, 3) := by decide +kernel
theorem dX11_through_32 : decode cX11_through 32 = .ok (.iload_n 2, 1) := by decide +kernel
theorem dX11_through_33 : decode cX11_through 33 = .ok (.baload, 1) := by decide +kernel
theorem dX11_through_34 : decode cX11_through 34 = .ok (.ifCond .eq 9, 3) := by decide +kernel
theorem dX11_through_37 : decode cX11_through 37 = .ok (.aload_n 0, 1) := by decide +kernel
theorem dX11_through_38 : decode cX11_through 38 = .ok (.iconst 1, 1) := by decide +kernel
theorem dX11_through_39 : decode cX11_through 39 = .ok (.invokevirtual 92, 3) := by decide +kernel
theorem dX11_through_42 : decode cX11_through 42 = .ok (.ireturn, 1) := by decide +kernel
theorem dX11_through_43 : decode cX11_through 43 = .ok (.aload_n 0, 1) := by decide +kernel
theorem dX11_through_44 : decode cX11_through 44 = .ok (.iload_n 1, 1) := by decide +kernel
theorem dX11_through_45 : decode cX11_through 45 = .ok (.iload_n 2, 1) := by decide +kernel
theorem dX11_through_46 : decode cX11_through 46 = .ok (.invokevirtual 200, 3) := by decide +kernel
theorem dX11_through_49 : decode cX11_through 49 = .ok (.ifCond .ne 6, 3) := by decide +kernel
theorem dX11_through_52 : decode cX11_through 52 = .ok (.ldc 176, 2) := by decide +kernel
theorem dX11_through_54 : decode cX11_through 54 = .ok (.ireturn, 1) := by decide +kernel
theorem dX11_through_55 : decode cX11_through 55 = .ok (.aload_n 0, 1) := by decide +kernel
theorem dX11_through_56 : decode cX11_through 56 = .ok (.iload_n 1, 1) := by decide +kernel
theorem dX11_through_57 : decode cX11_through 57 = .ok (.iload_n 2, 1) := by decide +kernel
theorem dX11_through_58 : decode cX11_through 58 = .ok (.invokevirtual 203, 3) := by decide +kernel
theorem dX11_through_61 : decode cX11_through 61 = .ok (.aload_n 0, 1) := by decide +kernel
theorem dX11_through_62 : decode cX11_through 62 = .ok (.invokevirtual 207, 3) := by decide +kernel
theorem dX11_through_65 : decode cX11_through 65 = .ok (.aload_n 0, 1) := by decide +kernel
theorem dX11_through_66 : decode cX11_through 66 = .ok (.iconst 1, 1) := by decide +kernel
theorem dX11_through_67 : decode cX11_through 67 = .ok (.invokevirtual 96, 3) := by decide +kernel
theorem dX11_through_70 : decode cX11_through 70 = .ok (.ireturn, 1) := by decide +kernel
theorem dX11_lineAt_0 : decode cX11_lineAt 0 = .ok (.iload_n 1, 1) := by decide +kernel
theorem dX11_lineAt_1 : decode cX11_lineAt 1 = .ok (.i2l, 1) := by decide +kernel
theorem dX11_lineAt_2 : decode cX11_lineAt 2 = .ok (.lconst 0, 1) := by decide +kernel
theorem dX11_lineAt_3 : decode cX11_lineAt 3 = .ok (.ldc2_w 89, 3) := by decide +kernel
theorem dX11_lineAt_6 : decode cX11_lineAt 6 = .ok (.invokestatic 81, 3) := by decide +kernel
theorem dX11_lineAt_9 : decode cX11_lineAt 9 = .ok (.ifCond .ne 8, 3) := by decide +kernel
theorem dX11_lineAt_12 : decode cX11_lineAt 12 = .ok (.ldc 91, 2) := by decide +kernel
theorem dX11_lineAt_14 : decode cX11_lineAt 14 = .ok (.goto 31, 3) := by decide +kernel
theorem dX11_lineAt_17 : decode cX11_lineAt 17 = .ok (.iload_n 1, 1) := by decide +kernel
theorem dX11_lineAt_18 : decode cX11_lineAt 18 = .ok (.ifCond .ne 10, 3) := by decide +kernel
theorem dX11_lineAt_21 : decode cX11_lineAt 21 = .ok (.aload_n 0, 1) := by decide +kernel
theorem dX11_lineAt_22 : decode cX11_lineAt 22 = .ok (.getfield 185, 3) := by decide +kernel
theorem dX11_lineAt_25 : decode cX11_lineAt 25 = .ok (.goto 19, 3) := by decide +kernel
theorem dX11_lineAt_28 : decode cX11_lineAt 28 = .ok (.iload_n 1, 1) := by decide +kernel
theorem dX11_lineAt_29 : decode cX11_lineAt 29 = .ok (.iconst 1, 1) := by decide +kernel
theorem dX11_lineAt_30 : decode cX11_lineAt 30 = .ok (.if_icmp .ne 10, 3) := by decide +kernel
theorem dX11_lineAt_33 : decode cX11_lineAt 33 = .ok (.aload_n 0, 1) := by decide +kernel
theorem dX11_lineAt_34 : decode cX11_lineAt 34 = .ok (.getfield 47, 3) := by decide +kernel
theorem dX11_lineAt_37 : decode cX11_lineAt 37 = .ok (.goto 7, 3) := by decide +kernel
theorem dX11_lineAt_40 : decode cX11_lineAt 40 = .ok (.aload_n 0, 1) := by decide +kernel
theorem dX11_lineAt_41 : decode cX11_lineAt 41 = .ok (.getfield 188, 3) := by decide +kernel
theorem dX11_lineAt_44 : decode cX11_lineAt 44 = .ok (.l2i, 1) := by decide +kernel
theorem dX11_lineAt_45 : decode cX11_lineAt 45 = .ok (.ireturn, 1) := by decide +kernel
theorem dX11_sumOf_0 : decode cX11_sumOf 0 = .ok (.iconst 0, 1) := by decide +kernel
theorem dX11_sumOf_1 : decode cX11_sumOf 1 = .ok (.istore_n 3, 1) := by decide +kernel
theorem dX11_sumOf_2 : decode cX11_sumOf 2 = .ok (.iconst 0, 1) := by decide +kernel
theorem dX11_sumOf_3 : decode cX11_sumOf 3 = .ok (.istore 4, 2) := by decide +kernel
theorem dX11_sumOf_5 : decode cX11_sumOf 5 = .ok (.iload 4, 2) := by decide +kernel
theorem dX11_sumOf_7 : decode cX11_sumOf 7 = .ok (.aload_n 0, 1) := by decide +kernel
theorem dX11_sumOf_8 : decode cX11_sumOf 8 = .ok (.getfield 101, 3) := by decide +kernel
theorem dX11_sumOf_11 : decode cX11_sumOf 11 = .ok (.if_icmp .ge 72, 3) := by decide +kernel
theorem dX11_sumOf_14 : decode cX11_sumOf 14 = .ok (.aload_n 0, 1) := by decide +kernel
theorem dX11_sumOf_15 : decode cX11_sumOf 15 = .ok (.getfield 22, 3) := by decide +kernel
theorem dX11_sumOf_18 : decode cX11_sumOf 18 = .ok (.iload 4, 2) := by decide +kernel
theorem dX11_sumOf_20 : decode cX11_sumOf 20 = .ok (.baload, 1) := by decide +kernel
theorem dX11_sumOf_21 : decode cX11_sumOf 21 = .ok (.ifCond .ne 56, 3) := by decide +kernel
theorem dX11_sumOf_24 : decode cX11_sumOf 24 = .ok (.aload_n 0, 1) := by decide +kernel
theorem dX11_sumOf_25 : decode cX11_sumOf 25 = .ok (.iload 4, 2) := by decide +kernel
theorem dX11_sumOf_27 : decode cX11_sumOf 27 = .ok (.invokevirtual 210, 3) := by decide +kernel
theorem dX11_sumOf_30 : decode cX11_sumOf 30 = .ok (.lstore 5, 2) := by decide +kernel
theorem dX11_sumOf_32 : decode cX11_sumOf 32 = .ok (.lload 5, 2) := by decide +kernel
theorem dX11_sumOf_34 : decode cX11_sumOf 34 = .ok (.lconst 0, 1) := by decide +kernel
theorem dX11_sumOf_35 : decode cX11_sumOf 35 = .ok (.lcmp, 1) := by decide +kernel
theorem dX11_sumOf_36 : decode cX11_sumOf 36 = .ok (.ifCond .le 7, 3) := by decide +kernel
theorem dX11_sumOf_39 : decode cX11_sumOf 39 = .ok (.iconst 0, 1) := by decide +kernel
theorem dX11_sumOf_40 : decode cX11_sumOf 40 = .ok (.goto 15, 3) := by decide +kernel
theorem dX11_sumOf_43 : decode cX11_sumOf 43 = .ok (.lload 5, 2) := by decide +kernel
theorem dX11_sumOf_45 : decode cX11_sumOf 45 = .ok (.lconst 0, 1) := by decide +kernel
theorem dX11_sumOf_46 : decode cX11_sumOf 46 = .ok (.lcmp, 1) := by decide +kernel
theorem dX11_sumOf_47 : decode cX11_sumOf 47 = .ok (.ifCond .ne 7, 3) := by decide +kernel
theorem dX11_sumOf_50 : decode cX11_sumOf 50 = .ok (.iconst 1, 1) := by decide +kernel
theorem dX11_sumOf_51 : decode cX11_sumOf 51 = .ok (.goto 4, 3) := by decide +kernel
theorem dX11_sumOf_54 : decode cX11_sumOf 54 = .ok (.iconst 2, 1) := by decide +kernel
theorem dX11_sumOf_55 : decode cX11_sumOf 55 = .ok (.istore 7, 2) := by decide +kernel
theorem dX11_sumOf_57 : decode cX11_sumOf 57 = .ok (.iload_n 3, 1) := by decide +kernel
theorem dX11_sumOf_58 : decode cX11_sumOf 58 = .ok (.iload 7, 2) := by decide +kernel
theorem dX11_sumOf_60 : decode cX11_sumOf 60 = .ok (.iload_n 2, 1) := by decide +kernel
theorem dX11_sumOf_61 : decode cX11_sumOf 61 = .ok (.if_icmp .ne 13, 3) := by decide +kernel
theorem dX11_sumOf_64 : decode cX11_sumOf 64 = .ok (.aload_n 0, 1) := by decide +kernel
theorem dX11_sumOf_65 : decode cX11_sumOf 65 = .ok (.iload 4, 2) := by decide +kernel
theorem dX11_sumOf_67 : decode cX11_sumOf 67 = .ok (.iload_n 1, 1) := by decide +kernel
theorem dX11_sumOf_68 : decode cX11_sumOf 68 = .ok (.invokevirtual 172, 3) := by decide +kernel
theorem dX11_sumOf_71 : decode cX11_sumOf 71 = .ok (.goto 4, 3) := by decide +kernel
theorem dX11_sumOf_74 : decode cX11_sumOf 74 = .ok (.iconst 0, 1) := by decide +kernel
theorem dX11_sumOf_75 : decode cX11_sumOf 75 = .ok (.iadd, 1) := by decide +kernel
theorem dX11_sumOf_76 : decode cX11_sumOf 76 = .ok (.istore_n 3, 1) := by decide +kernel
theorem dX11_sumOf_77 : decode cX11_sumOf 77 = .ok (.iinc 4 1, 3) := by decide +kernel
theorem dX11_sumOf_80 : decode cX11_sumOf 80 = .ok (.goto (-75), 3) := by decide +kernel
theorem dX11_sumOf_83 : decode cX11_sumOf 83 = .ok (.iload_n 3, 1) := by decide +kernel
theorem dX11_sumOf_84 : decode cX11_sumOf 84 = .ok (.ireturn, 1) := by decide +kernel
theorem dX11_isHalved_0 : decode cX11_isHalved 0 = .ok (.aload_n 0, 1) := by decide +kernel
theorem dX11_isHalved_1 : decode cX11_isHalved 1 = .ok (.iload_n 1, 1) := by decide +kernel
theorem dX11_isHalved_2 : decode cX11_isHalved 2 = .ok (.iconst 0, 1) := by decide +kernel
theorem dX11_isHalved_3 : decode cX11_isHalved 3 = .ok (.invokevirtual 214, 3) := by decide +kernel
theorem dX11_isHalved_6 : decode cX11_isHalved 6 = .ok (.istore_n 2, 1) := by decide +kernel
theorem dX11_isHalved_7 : decode cX11_isHalved 7 = .ok (.aload_n 0, 1) := by decide +kernel
theorem dX11_isHalved_8 : decode cX11_isHalved 8 = .ok (.iload_n 1, 1) := by decide +kernel
theorem dX11_isHalved_9 : decode cX11_isHalved 9 = .ok (.iconst 2, 1) := by decide +kernel
theorem dX11_isHalved_10 : decode cX11_isHalved 10 = .ok (.invokevirtual 214, 3) := by decide +kernel
theorem dX11_isHalved_13 : decode cX11_isHalved 13 = .ok (.istore_n 3, 1) := by decide +kernel
theorem dX11_isHalved_14 : decode cX11_isHalved 14 = .ok (.iload_n 2, 1) := by decide +kernel
theorem dX11_isHalved_15 : decode cX11_isHalved 15 = .ok (.iload_n 3, 1) := by decide +kernel
theorem dX11_isHalved_16 : decode cX11_isHalved 16 = .ok (.iadd, 1) := by decide +kernel
theorem dX11_isHalved_17 : decode cX11_isHalved 17 = .ok (.aload_n 0, 1) := by decide +kernel
theorem dX11_isHalved_18 : decode cX11_isHalved 18 = .ok (.iload_n 1, 1) := by decide +kernel
theorem dX11_isHalved_19 : decode cX11_isHalved 19 = .ok (.iconst 1, 1) := by decide +kernel
theorem dX11_isHalved_20 : decode cX11_isHalved 20 = .ok (.invokevirtual 214, 3) := by decide +kernel
theorem dX11_isHalved_23 : decode cX11_isHalved 23 = .ok (.iadd, 1) := by decide +kernel
theorem dX11_isHalved_24 : decode cX11_isHalved 24 = .ok (.istore 4, 2) := by decide +kernel
theorem dX11_isHalved_26 : decode cX11_isHalved 26 = .ok (.iconst 2, 1) := by decide +kernel
theorem dX11_isHalved_27 : decode cX11_isHalved 27 = .ok (.iload_n 2, 1) := by decide +kernel
theorem dX11_isHalved_28 : decode cX11_isHalved 28 = .ok (.imul, 1) := by decide +kernel
theorem dX11_isHalved_29 : decode cX11_isHalved 29 = .ok (.iload 4, 2) := by decide +kernel
theorem dX11_isHalved_31 : decode cX11_isHalved 31 = .ok (.if_icmp .gt 15, 3) := by decide +kernel
theorem dX11_isHalved_34 : decode cX11_isHalved 34 = .ok (.iconst 2, 1) := by decide +kernel
theorem dX11_isHalved_35 : decode cX11_isHalved 35 = .ok (.iload_n 3, 1) := by decide +kernel
theorem dX11_isHalved_36 : decode cX11_isHalved 36 = .ok (.imul, 1) := by decide +kernel
theorem dX11_isHalved_37 : decode cX11_isHalved 37 = .ok (.iload 4, 2) := by decide +kernel
theorem dX11_isHalved_39 : decode cX11_isHalved 39 = .ok (.if_icmp .gt 7, 3) := by decide +kernel
theorem dX11_isHalved_42 : decode cX11_isHalved 42 = .ok (.iconst 1, 1) := by decide +kernel
theorem dX11_isHalved_43 : decode cX11_isHalved 43 = .ok (.goto 4, 3) := by decide +kernel
theorem dX11_isHalved_46 : decode cX11_isHalved 46 = .ok (.iconst 0, 1) := by decide +kernel
theorem dX11_isHalved_47 : decode cX11_isHalved 47 = .ok (.ireturn, 1) := by decide +kernel
theorem dX11_side_0 : decode cX11_side 0 = .ok (.iload_n 1, 1) := by decide +kernel
theorem dX11_side_1 : decode cX11_side 1 = .ok (.i2l, 1) := by decide +kernel
theorem dX11_side_2 : decode cX11_side 2 = .ok (.lconst 0, 1) := by decide +kernel
theorem dX11_side_3 : decode cX11_side 3 = .ok (.ldc2_w 89, 3) := by decide +kernel
theorem dX11_side_6 : decode cX11_side 6 = .ok (.invokestatic 81, 3) := by decide +kernel
theorem dX11_side_9 : decode cX11_side 9 = .ok (.ifCond .eq 15, 3) := by decide +kernel
theorem dX11_side_12 : decode cX11_side 12 = .ok (.iload_n 2, 1) := by decide +kernel
theorem dX11_side_13 : decode cX11_side 13 = .ok (.i2l, 1) := by decide +kernel
theorem dX11_side_14 : decode cX11_side 14 = .ok (.lconst 0, 1) := by decide +kernel
theorem dX11_side_15 : decode cX11_side 15 = .ok (.ldc2_w 89, 3) := by decide +kernel
theorem dX11_side_18 : decode cX11_side 18 = .ok (.invokestatic 81, 3) := by decide +kernel
theorem dX11_side_21 : decode cX11_side 21 = .ok (.ifCond .ne 6, 3) := by decide +kernel
theorem dX11_side_24 : decode cX11_side 24 = .ok (.ldc 91, 2) := by decide +kernel
theorem dX11_side_26 : decode cX11_side 26 = .ok (.ireturn, 1) := by decide +kernel
theorem dX11_side_27 : decode cX11_side 27 = .ok (.aload_n 0, 1) := by decide +kernel
theorem dX11_side_28 : decode cX11_side 28 = .ok (.invokevirtual 217, 3) := by decide +kernel
theorem dX11_side_31 : decode cX11_side 31 = .ok (.aload_n 0, 1) := by decide +kernel
theorem dX11_side_32 : decode cX11_side 32 = .ok (.iload_n 1, 1) := by decide +kernel
theorem dX11_side_33 : decode cX11_side 33 = .ok (.iload_n 2, 1) := by decide +kernel
theorem dX11_side_34 : decode cX11_side 34 = .ok (.invokevirtual 214, 3) := by decide +kernel
theorem dX11_side_37 : decode cX11_side 37 = .ok (.ireturn, 1) := by decide +kernel
theorem dX11_halves_0 : decode cX11_halves 0 = .ok (.iload_n 1, 1) := by decide +kernel
theorem dX11_halves_1 : decode cX11_halves 1 = .ok (.i2l, 1) := by decide +kernel
theorem dX11_halves_2 : decode cX11_halves 2 = .ok (.lconst 0, 1) := by decide +kernel
theorem dX11_halves_3 : decode cX11_halves 3 = .ok (.ldc2_w 89, 3) := by decide +kernel
theorem dX11_halves_6 : decode cX11_halves 6 = .ok (.invokestatic 81, 3) := by decide +kernel
theorem dX11_halves_9 : decode cX11_halves 9 = .ok (.ifCond .ne 6, 3) := by decide +kernel
theorem dX11_halves_12 : decode cX11_halves 12 = .ok (.ldc 91, 2) := by decide +kernel
theorem dX11_halves_14 : decode cX11_halves 14 = .ok (.ireturn, 1) := by decide +kernel
theorem dX11_halves_15 : decode cX11_halves 15 = .ok (.aload_n 0, 1) := by decide +kernel
theorem dX11_halves_16 : decode cX11_halves 16 = .ok (.invokevirtual 217, 3) := by decide +kernel
theorem dX11_halves_19 : decode cX11_halves 19 = .ok (.aload_n 0, 1) := by decide +kernel
theorem dX11_halves_20 : decode cX11_halves 20 = .ok (.iload_n 1, 1) := by decide +kernel
theorem dX11_halves_21 : decode cX11_halves 21 = .ok (.invokevirtual 220, 3) := by decide +kernel
theorem dX11_halves_24 : decode cX11_halves 24 = .ok (.ifCond .eq 7, 3) := by decide +kernel
theorem dX11_halves_27 : decode cX11_halves 27 = .ok (.iconst 1, 1) := by decide +kernel
theorem dX11_halves_28 : decode cX11_halves 28 = .ok (.goto 4, 3) := by decide +kernel
theorem dX11_halves_31 : decode cX11_halves 31 = .ok (.iconst 0, 1) := by decide +kernel
theorem dX11_halves_32 : decode cX11_halves 32 = .ok (.ireturn, 1) := by decide +kernel
theorem dX11_isFirst_0 : decode cX11_isFirst 0 = .ok (.aload_n 0, 1) := by decide +kernel
theorem dX11_isFirst_1 : decode cX11_isFirst 1 = .ok (.iload_n 1, 1) := by decide +kernel
theorem dX11_isFirst_2 : decode cX11_isFirst 2 = .ok (.iload_n 2, 1) := by decide +kernel
theorem dX11_isFirst_3 : decode cX11_isFirst 3 = .ok (.invokevirtual 203, 3) := by decide +kernel
theorem dX11_isFirst_6 : decode cX11_isFirst 6 = .ok (.iconst 0, 1) := by decide +kernel
theorem dX11_isFirst_7 : decode cX11_isFirst 7 = .ok (.istore_n 3, 1) := by decide +kernel
theorem dX11_isFirst_8 : decode cX11_isFirst 8 = .ok (.iload_n 3, 1) := by decide +kernel
theorem dX11_isFirst_9 : decode cX11_isFirst 9 = .ok (.iload_n 1, 1) := by decide +kernel
theorem dX11_isFirst_10 : decode cX11_isFirst 10 = .ok (.if_icmp .gt 92, 3) := by decide +kernel
theorem dX11_isFirst_13 : decode cX11_isFirst 13 = .ok (.aload_n 0, 1) := by decide +kernel
theorem dX11_isFirst_14 : decode cX11_isFirst 14 = .ok (.getfield 22, 3) := by decide +kernel
theorem dX11_isFirst_17 : decode cX11_isFirst 17 = .ok (.iload_n 3, 1) := by decide +kernel
theorem dX11_isFirst_18 : decode cX11_isFirst 18 = .ok (.baload, 1) := by decide +kernel
theorem dX11_isFirst_19 : decode cX11_isFirst 19 = .ok (.ifCond .ne 77, 3) := by decide +kernel
theorem dX11_isFirst_22 : decode cX11_isFirst 22 = .ok (.aload_n 0, 1) := by decide +kernel
theorem dX11_isFirst_23 : decode cX11_isFirst 23 = .ok (.iload_n 3, 1) := by decide +kernel
theorem dX11_isFirst_24 : decode cX11_isFirst 24 = .ok (.invokevirtual 210, 3) := by decide +kernel
theorem dX11_isFirst_27 : decode cX11_isFirst 27 = .ok (.lconst 0, 1) := by decide +kernel
theorem dX11_isFirst_28 : decode cX11_isFirst 28 = .ok (.lcmp, 1) := by decide +kernel
theorem dX11_isFirst_29 : decode cX11_isFirst 29 = .ok (.ifCond .ne 67, 3) := by decide +kernel
theorem dX11_isFirst_32 : decode cX11_isFirst 32 = .ok (.iload_n 3, 1) := by decide +kernel
theorem dX11_isFirst_33 : decode cX11_isFirst 33 = .ok (.iconst 1, 1) := by decide +kernel
theorem dX11_isFirst_34 : decode cX11_isFirst 34 = .ok (.iadd, 1) := by decide +kernel
theorem dX11_isFirst_35 : decode cX11_isFirst 35 = .ok (.istore 4, 2) := by decide +kernel
theorem dX11_isFirst_37 : decode cX11_isFirst 37 = .ok (.iload 4, 2) := by decide +kernel
theorem dX11_isFirst_39 : decode cX11_isFirst 39 = .ok (.aload_n 0, 1) := by decide +kernel
theorem dX11_isFirst_40 : decode cX11_isFirst 40 = .ok (.getfield 101, 3) := by decide +kernel
theorem dX11_isFirst_43 : decode cX11_isFirst 43 = .ok (.if_icmp .ge 53, 3) := by decide +kernel
theorem dX11_isFirst_46 : decode cX11_isFirst 46 = .ok (.iload_n 3, 1) := by decide +kernel
theorem dX11_isFirst_47 : decode cX11_isFirst 47 = .ok (.iload_n 1, 1) := by decide +kernel
theorem dX11_isFirst_48 : decode cX11_isFirst 48 = .ok (.if_icmp .lt 9, 3) := by decide +kernel
theorem dX11_isFirst_51 : decode cX11_isFirst 51 = .ok (.iload 4, 2) := by decide +kernel
theorem dX11_isFirst_53 : decode cX11_isFirst 53 = .ok (.iload_n 2, 1) := by decide +kernel
theorem dX11_isFirst_54 : decode cX11_isFirst 54 = .ok (.if_icmp .ge 36, 3) := by decide +kernel
theorem dX11_isFirst_57 : decode cX11_isFirst 57 = .ok (.aload_n 0, 1) := by decide +kernel
theorem dX11_isFirst_58 : decode cX11_isFirst 58 = .ok (.getfield 22, 3) := by decide +kernel
theorem dX11_isFirst_61 : decode cX11_isFirst 61 = .ok (.iload 4, 2) := by decide +kernel
theorem dX11_isFirst_63 : decode cX11_isFirst 63 = .ok (.baload, 1) := by decide +kernel
theorem dX11_isFirst_64 : decode cX11_isFirst 64 = .ok (.ifCond .ne 26, 3) := by decide +kernel
theorem dX11_isFirst_67 : decode cX11_isFirst 67 = .ok (.aload_n 0, 1) := by decide +kernel
theorem dX11_isFirst_68 : decode cX11_isFirst 68 = .ok (.iload 4, 2) := by decide +kernel
theorem dX11_isFirst_70 : decode cX11_isFirst 70 = .ok (.invokevirtual 210, 3) := by decide +kernel
theorem dX11_isFirst_73 : decode cX11_isFirst 73 = .ok (.lconst 0, 1) := by decide +kernel
theorem dX11_isFirst_74 : decode cX11_isFirst 74 = .ok (.lcmp, 1) := by decide +kernel
theorem dX11_isFirst_75 : decode cX11_isFirst 75 = .ok (.ifCond .ne 15, 3) := by decide +kernel
theorem dX11_isFirst_78 : decode cX11_isFirst 78 = .ok (.aload_n 0, 1) := by decide +kernel
theorem dX11_isFirst_79 : decode cX11_isFirst 79 = .ok (.iload_n 3, 1) := by decide +kernel
theorem dX11_isFirst_80 : decode cX11_isFirst 80 = .ok (.iload 4, 2) := by decide +kernel
theorem dX11_isFirst_82 : decode cX11_isFirst 82 = .ok (.invokevirtual 200, 3) := by decide +kernel
theorem dX11_isFirst_85 : decode cX11_isFirst 85 = .ok (.ifCond .eq 5, 3) := by decide +kernel
theorem dX11_isFirst_88 : decode cX11_isFirst 88 = .ok (.iconst 0, 1) := by decide +kernel
theorem dX11_isFirst_89 : decode cX11_isFirst 89 = .ok (.ireturn, 1) := by decide +kernel
theorem dX11_isFirst_90 : decode cX11_isFirst 90 = .ok (.iinc 4 1, 3) := by decide +kernel
theorem dX11_isFirst_93 : decode cX11_isFirst 93 = .ok (.goto (-56), 3) := by decide +kernel
theorem dX11_isFirst_96 : decode cX11_isFirst 96 = .ok (.iinc 3 1, 3) := by decide +kernel
theorem dX11_isFirst_99 : decode cX11_isFirst 99 = .ok (.goto (-91), 3) := by decide +kernel
theorem dX11_isFirst_102 : decode cX11_isFirst 102 = .ok (.iconst 1, 1) := by decide +kernel
theorem dX11_isFirst_103 : decode cX11_isFirst 103 = .ok (.ireturn, 1) := by decide +kernel
theorem dX11_firstThere_0 : decode cX11_firstThere 0 = .ok (.iconst 0, 1) := by decide +kernel
theorem dX11_firstThere_1 : decode cX11_firstThere 1 = .ok (.istore_n 1, 1) := by decide +kernel
theorem dX11_firstThere_2 : decode cX11_firstThere 2 = .ok (.iload_n 1, 1) := by decide +kernel
theorem dX11_firstThere_3 : decode cX11_firstThere 3 = .ok (.aload_n 0, 1) := by decide +kernel
theorem dX11_firstThere_4 : decode cX11_firstThere 4 = .ok (.getfield 101, 3) := by decide +kernel
theorem dX11_firstThere_7 : decode cX11_firstThere 7 = .ok (.if_icmp .ge 18, 3) := by decide +kernel
theorem dX11_firstThere_10 : decode cX11_firstThere 10 = .ok (.aload_n 0, 1) := by decide +kernel
theorem dX11_firstThere_11 : decode cX11_firstThere 11 = .ok (.getfield 22, 3) := by decide +kernel
theorem dX11_firstThere_14 : decode cX11_firstThere 14 = .ok (.iload_n 1, 1) := by decide +kernel
theorem dX11_firstThere_15 : decode cX11_firstThere 15 = .ok (.baload, 1) := by decide +kernel
theorem dX11_firstThere_16 : decode cX11_firstThere 16 = .ok (.ifCond .eq 9, 3) := by decide +kernel
theorem dX11_firstThere_19 : decode cX11_firstThere 19 = .ok (.iinc 1 1, 3) := by decide +kernel
theorem dX11_firstThere_22 : decode cX11_firstThere 22 = .ok (.goto (-20), 3) := by decide +kernel
theorem dX11_firstThere_25 : decode cX11_firstThere 25 = .ok (.iload_n 1, 1) := by decide +kernel
theorem dX11_firstThere_26 : decode cX11_firstThere 26 = .ok (.aload_n 0, 1) := by decide +kernel
theorem dX11_firstThere_27 : decode cX11_firstThere 27 = .ok (.getfield 101, 3) := by decide +kernel
theorem dX11_firstThere_30 : decode cX11_firstThere 30 = .ok (.if_icmp .ge 7, 3) := by decide +kernel
theorem dX11_firstThere_33 : decode cX11_firstThere 33 = .ok (.iload_n 1, 1) := by decide +kernel
theorem dX11_firstThere_34 : decode cX11_firstThere 34 = .ok (.goto 5, 3) := by decide +kernel
theorem dX11_firstThere_37 : decode cX11_firstThere 37 = .ok (.ldc 26, 2) := by decide +kernel
theorem dX11_firstThere_39 : decode cX11_firstThere 39 = .ok (.ireturn, 1) := by decide +kernel
theorem dX11_findFurrow_0 : decode cX11_findFurrow 0 = .ok (.iconst 0, 1) := by decide +kernel
theorem dX11_findFurrow_1 : decode cX11_findFurrow 1 = .ok (.istore_n 2, 1) := by decide +kernel
theorem dX11_findFurrow_2 : decode cX11_findFurrow 2 = .ok (.iconst 1, 1) := by decide +kernel
theorem dX11_findFurrow_3 : decode cX11_findFurrow 3 = .ok (.istore_n 3, 1) := by decide +kernel
theorem dX11_findFurrow_4 : decode cX11_findFurrow 4 = .ok (.iconst 0, 1) := by decide +kernel
theorem dX11_findFurrow_5 : decode cX11_findFurrow 5 = .ok (.istore 4, 2) := by decide +kernel
theorem dX11_findFurrow_7 : decode cX11_findFurrow 7 = .ok (.iload 4, 2) := by decide +kernel
theorem dX11_findFurrow_9 : decode cX11_findFurrow 9 = .ok (.aload_n 0, 1) := by decide +kernel
theorem dX11_findFurrow_10 : decode cX11_findFurrow 10 = .ok (.getfield 101, 3) := by decide +kernel
theorem dX11_findFurrow_13 : decode cX11_findFurrow 13 = .ok (.if_icmp .ge 102, 3) := by decide +kernel
theorem dX11_findFurrow_16 : decode cX11_findFurrow 16 = .ok (.iload 4, 2) := by decide +kernel
theorem dX11_findFurrow_18 : decode cX11_findFurrow 18 = .ok (.iconst 1, 1) := by decide +kernel
theorem dX11_findFurrow_19 : decode cX11_findFurrow 19 = .ok (.iadd, 1) := by decide +kernel
theorem dX11_findFurrow_20 : decode cX11_findFurrow 20 = .ok (.istore 5, 2) := by decide +kernel
theorem dX11_findFurrow_22 : decode cX11_findFurrow 22 = .ok (.iload 5, 2) := by decide +kernel
theorem dX11_findFurrow_24 : decode cX11_findFurrow 24 = .ok (.aload_n 0, 1) := by decide +kernel
theorem dX11_findFurrow_25 : decode cX11_findFurrow 25 = .ok (.getfield 101, 3) := by decide +kernel
theorem dX11_findFurrow_28 : decode cX11_findFurrow 28 = .ok (.if_icmp .ge 81, 3) := by decide +kernel
theorem dX11_findFurrow_31 : decode cX11_findFurrow 31 = .ok (.aload_n 0, 1) := by decide +kernel
theorem dX11_findFurrow_32 : decode cX11_findFurrow 32 = .ok (.getfield 22, 3) := by decide +kernel
theorem dX11_findFurrow_35 : decode cX11_findFurrow 35 = .ok (.iload 4, 2) := by decide +kernel
theorem dX11_findFurrow_37 : decode cX11_findFurrow 37 = .ok (.baload, 1) := by decide +kernel
theorem dX11_findFurrow_38 : decode cX11_findFurrow 38 = .ok (.ifCond .ne 71, 3) := by decide +kernel
theorem dX11_findFurrow_41 : decode cX11_findFurrow 41 = .ok (.aload_n 0, 1) := by decide +kernel
theorem dX11_findFurrow_42 : decode cX11_findFurrow 42 = .ok (.getfield 22, 3) := by decide +kernel
theorem dX11_findFurrow_45 : decode cX11_findFurrow 45 = .ok (.iload 5, 2) := by decide +kernel
theorem dX11_findFurrow_47 : decode cX11_findFurrow 47 = .ok (.baload, 1) := by decide +kernel
theorem dX11_findFurrow_48 : decode cX11_findFurrow 48 = .ok (.ifCond .ne 55, 3) := by decide +kernel
theorem dX11_findFurrow_51 : decode cX11_findFurrow 51 = .ok (.aload_n 0, 1) := by decide +kernel
theorem dX11_findFurrow_52 : decode cX11_findFurrow 52 = .ok (.iload 4, 2) := by decide +kernel
theorem dX11_findFurrow_54 : decode cX11_findFurrow 54 = .ok (.iload 5, 2) := by decide +kernel
theorem dX11_findFurrow_56 : decode cX11_findFurrow 56 = .ok (.invokevirtual 200, 3) := by decide +kernel
theorem dX11_findFurrow_59 : decode cX11_findFurrow 59 = .ok (.ifCond .eq 44, 3) := by decide +kernel
theorem dX11_findFurrow_62 : decode cX11_findFurrow 62 = .ok (.iconst 0, 1) := by decide +kernel
theorem dX11_findFurrow_63 : decode cX11_findFurrow 63 = .ok (.istore_n 3, 1) := by decide +kernel
theorem dX11_findFurrow_64 : decode cX11_findFurrow 64 = .ok (.aload_n 0, 1) := by decide +kernel
theorem dX11_findFurrow_65 : decode cX11_findFurrow 65 = .ok (.iload 4, 2) := by decide +kernel
theorem dX11_findFurrow_67 : decode cX11_findFurrow 67 = .ok (.iload 5, 2) := by decide +kernel
theorem dX11_findFurrow_69 : decode cX11_findFurrow 69 = .ok (.invokevirtual 223, 3) := by decide +kernel
theorem dX11_findFurrow_72 : decode cX11_findFurrow 72 = .ok (.ifCond .eq 31, 3) := by decide +kernel
theorem dX11_findFurrow_75 : decode cX11_findFurrow 75 = .ok (.aload_n 0, 1) := by decide +kernel
theorem dX11_findFurrow_76 : decode cX11_findFurrow 76 = .ok (.iconst 0, 1) := by decide +kernel
theorem dX11_findFurrow_77 : decode cX11_findFurrow 77 = .ok (.invokevirtual 220, 3) := by decide +kernel
theorem dX11_findFurrow_80 : decode cX11_findFurrow 80 = .ok (.ifCond .eq 23, 3) := by decide +kernel
theorem dX11_findFurrow_83 : decode cX11_findFurrow 83 = .ok (.aload_n 0, 1) := by decide +kernel
theorem dX11_findFurrow_84 : decode cX11_findFurrow 84 = .ok (.iconst 1, 1) := by decide +kernel
theorem dX11_findFurrow_85 : decode cX11_findFurrow 85 = .ok (.invokevirtual 220, 3) := by decide +kernel
theorem dX11_findFurrow_88 : decode cX11_findFurrow 88 = .ok (.ifCond .eq 15, 3) := by decide +kernel
theorem dX11_findFurrow_91 : decode cX11_findFurrow 91 = .ok (.iload_n 2, 1) := by decide +kernel
theorem dX11_findFurrow_92 : decode cX11_findFurrow 92 = .ok (.iload_n 1, 1) := by decide +kernel
theorem dX11_findFurrow_93 : decode cX11_findFurrow 93 = .ok (.if_icmp .ne 7, 3) := by decide +kernel
theorem dX11_findFurrow_96 : decode cX11_findFurrow 96 = .ok (.iload_n 2, 1) := by decide +kernel
theorem dX11_findFurrow_97 : decode cX11_findFurrow 97 = .ok (.iconst 1, 1) := by decide +kernel
theorem dX11_findFurrow_98 : decode cX11_findFurrow 98 = .ok (.iadd, 1) := by decide +kernel
theorem dX11_findFurrow_99 : decode cX11_findFurrow 99 = .ok (.ireturn, 1) := by decide +kernel
theorem dX11_findFurrow_100 : decode cX11_findFurrow 100 = .ok (.iinc 2 1, 3) := by decide +kernel
theorem dX11_findFurrow_103 : decode cX11_findFurrow 103 = .ok (.iinc 5 1, 3) := by decide +kernel
theorem dX11_findFurrow_106 : decode cX11_findFurrow 106 = .ok (.goto (-84), 3) := by decide +kernel
theorem dX11_findFurrow_109 : decode cX11_findFurrow 109 = .ok (.iinc 4 1, 3) := by decide +kernel
theorem dX11_findFurrow_112 : decode cX11_findFurrow 112 = .ok (.goto (-105), 3) := by decide +kernel
theorem dX11_findFurrow_115 : decode cX11_findFurrow 115 = .ok (.iload_n 3, 1) := by decide +kernel
theorem dX11_findFurrow_116 : decode cX11_findFurrow 116 = .ok (.ifCond .eq 30, 3) := by decide +kernel
theorem dX11_findFurrow_119 : decode cX11_findFurrow 119 = .ok (.aload_n 0, 1) := by decide +kernel
theorem dX11_findFurrow_120 : decode cX11_findFurrow 120 = .ok (.lconst 0, 1) := by decide +kernel
theorem dX11_findFurrow_121 : decode cX11_findFurrow 121 = .ok (.putfield 191, 3) := by decide +kernel
theorem dX11_findFurrow_124 : decode cX11_findFurrow 124 = .ok (.aload_n 0, 1) := by decide +kernel
theorem dX11_findFurrow_125 : decode cX11_findFurrow 125 = .ok (.lconst 1, 1) := by decide +kernel
theorem dX11_findFurrow_126 : decode cX11_findFurrow 126 = .ok (.putfield 194, 3) := by decide +kernel
theorem dX11_findFurrow_129 : decode cX11_findFurrow 129 = .ok (.aload_n 0, 1) := by decide +kernel
theorem dX11_findFurrow_130 : decode cX11_findFurrow 130 = .ok (.aload_n 0, 1) := by decide +kernel
theorem dX11_findFurrow_131 : decode cX11_findFurrow 131 = .ok (.getfield 13, 3) := by decide +kernel
theorem dX11_findFurrow_134 : decode cX11_findFurrow 134 = .ok (.aload_n 0, 1) := by decide +kernel
theorem dX11_findFurrow_135 : decode cX11_findFurrow 135 = .ok (.invokevirtual 226, 3) := by decide +kernel
theorem dX11_findFurrow_138 : decode cX11_findFurrow 138 = .ok (.iaload, 1) := by decide +kernel
theorem dX11_findFurrow_139 : decode cX11_findFurrow 139 = .ok (.ineg, 1) := by decide +kernel
theorem dX11_findFurrow_140 : decode cX11_findFurrow 140 = .ok (.i2l, 1) := by decide +kernel
theorem dX11_findFurrow_141 : decode cX11_findFurrow 141 = .ok (.putfield 197, 3) := by decide +kernel
theorem dX11_findFurrow_144 : decode cX11_findFurrow 144 = .ok (.iconst 1, 1) := by decide +kernel
theorem dX11_findFurrow_145 : decode cX11_findFurrow 145 = .ok (.istore_n 2, 1) := by decide +kernel
theorem dX11_findFurrow_146 : decode cX11_findFurrow 146 = .ok (.iload_n 2, 1) := by decide +kernel
theorem dX11_findFurrow_147 : decode cX11_findFurrow 147 = .ok (.ireturn, 1) := by decide +kernel
theorem dX11_furrow_0 : decode cX11_furrow 0 = .ok (.iload_n 1, 1) := by decide +kernel
theorem dX11_furrow_1 : decode cX11_furrow 1 = .ok (.ifCond .ge 6, 3) := by decide +kernel
theorem dX11_furrow_4 : decode cX11_furrow 4 = .ok (.ldc 91, 2) := by decide +kernel
theorem dX11_furrow_6 : decode cX11_furrow 6 = .ok (.ireturn, 1) := by decide +kernel
theorem dX11_furrow_7 : decode cX11_furrow 7 = .ok (.aload_n 0, 1) := by decide +kernel
theorem dX11_furrow_8 : decode cX11_furrow 8 = .ok (.invokevirtual 134, 3) := by decide +kernel
theorem dX11_furrow_11 : decode cX11_furrow 11 = .ok (.ifCond .ne 6, 3) := by decide +kernel
theorem dX11_furrow_14 : decode cX11_furrow 14 = .ok (.ldc 176, 2) := by decide +kernel
theorem dX11_furrow_16 : decode cX11_furrow 16 = .ok (.ireturn, 1) := by decide +kernel
theorem dX11_furrow_17 : decode cX11_furrow 17 = .ok (.aload_n 0, 1) := by decide +kernel
theorem dX11_furrow_18 : decode cX11_furrow 18 = .ok (.iload_n 1, 1) := by decide +kernel
theorem dX11_furrow_19 : decode cX11_furrow 19 = .ok (.invokevirtual 229, 3) := by decide +kernel
theorem dX11_furrow_22 : decode cX11_furrow 22 = .ok (.iload_n 1, 1) := by decide +kernel
theorem dX11_furrow_23 : decode cX11_furrow 23 = .ok (.if_icmp .gt 5, 3) := by decide +kernel
theorem dX11_furrow_26 : decode cX11_furrow 26 = .ok (.iconst 0, 1) := by decide +kernel
theorem dX11_furrow_27 : decode cX11_furrow 27 = .ok (.ireturn, 1) := by decide +kernel
theorem dX11_furrow_28 : decode cX11_furrow 28 = .ok (.aload_n 0, 1) := by decide +kernel
theorem dX11_furrow_29 : decode cX11_furrow 29 = .ok (.invokevirtual 207, 3) := by decide +kernel
theorem dX11_furrow_32 : decode cX11_furrow 32 = .ok (.iconst 1, 1) := by decide +kernel
theorem dX11_furrow_33 : decode cX11_furrow 33 = .ok (.ireturn, 1) := by decide +kernel
theorem dX11_furrows_0 : decode cX11_furrows 0 = .ok (.aload_n 0, 1) := by decide +kernel
theorem dX11_furrows_1 : decode cX11_furrows 1 = .ok (.invokevirtual 134, 3) := by decide +kernel
theorem dX11_furrows_4 : decode cX11_furrows 4 = .ok (.ifCond .ne 8, 3) := by decide +kernel
theorem dX11_furrows_7 : decode cX11_furrows 7 = .ok (.ldc 176, 2) := by decide +kernel
theorem dX11_furrows_9 : decode cX11_furrows 9 = .ok (.goto 8, 3) := by decide +kernel
theorem dX11_furrows_12 : decode cX11_furrows 12 = .ok (.aload_n 0, 1) := by decide +kernel
theorem dX11_furrows_13 : decode cX11_furrows 13 = .ok (.iconst (-1), 1) := by decide +kernel
theorem dX11_furrows_14 : decode cX11_furrows 14 = .ok (.invokevirtual 229, 3) := by decide +kernel
theorem dX11_furrows_17 : decode cX11_furrows 17 = .ok (.ireturn, 1) := by decide +kernel
theorem dX11_sumBeyond_0 : decode cX11_sumBeyond 0 = .ok (.iconst 0, 1) := by decide +kernel
theorem dX11_sumBeyond_1 : decode cX11_sumBeyond 1 = .ok (.istore 10, 2) := by decide +kernel
theorem dX11_sumBeyond_3 : decode cX11_sumBeyond 3 = .ok (.iconst 0, 1) := by decide +kernel
theorem dX11_sumBeyond_4 : decode cX11_sumBeyond 4 = .ok (.istore 11, 2) := by decide +kernel
theorem dX11_sumBeyond_6 : decode cX11_sumBeyond 6 = .ok (.iload 11, 2) := by decide +kernel
theorem dX11_sumBeyond_8 : decode cX11_sumBeyond 8 = .ok (.iload_n 1, 1) := by decide +kernel
theorem dX11_sumBeyond_9 : decode cX11_sumBeyond 9 = .ok (.if_icmp .ge 127, 3) := by decide +kernel
theorem dX11_sumBeyond_12 : decode cX11_sumBeyond 12 = .ok (.lload_n 2, 1) := by decide +kernel
theorem dX11_sumBeyond_13 : decode cX11_sumBeyond 13 = .ok (.aload_n 0, 1) := by decide +kernel
theorem dX11_sumBeyond_14 : decode cX11_sumBeyond 14 = .ok (.getfield 51, 3) := by decide +kernel
theorem dX11_sumBeyond_17 : decode cX11_sumBeyond 17 = .ok (.iload 11, 2) := by decide +kernel
theorem dX11_sumBeyond_19 : decode cX11_sumBeyond 19 = .ok (.laload, 1) := by decide +kernel
theorem dX11_sumBeyond_20 : decode cX11_sumBeyond 20 = .ok (.lmul, 1) := by decide +kernel
theorem dX11_sumBeyond_21 : decode cX11_sumBeyond 21 = .ok (.lload 4, 2) := by decide +kernel
theorem dX11_sumBeyond_23 : decode cX11_sumBeyond 23 = .ok (.aload_n 0, 1) := by decide +kernel
theorem dX11_sumBeyond_24 : decode cX11_sumBeyond 24 = .ok (.getfield 54, 3) := by decide +kernel
theorem dX11_sumBeyond_27 : decode cX11_sumBeyond 27 = .ok (.iload 11, 2) := by decide +kernel
theorem dX11_sumBeyond_29 : decode cX11_sumBeyond 29 = .ok (.laload, 1) := by decide +kernel
theorem dX11_sumBeyond_30 : decode cX11_sumBeyond 30 = .ok (.lmul, 1) := by decide +kernel
theorem dX11_sumBeyond_31 : decode cX11_sumBeyond 31 = .ok (.ladd, 1) := by decide +kernel
theorem dX11_sumBeyond_32 : decode cX11_sumBeyond 32 = .ok (.lstore 12, 2) := by decide +kernel
theorem dX11_sumBeyond_34 : decode cX11_sumBeyond 34 = .ok (.lload 6, 2) := by decide +kernel
theorem dX11_sumBeyond_36 : decode cX11_sumBeyond 36 = .ok (.aload_n 0, 1) := by decide +kernel
theorem dX11_sumBeyond_37 : decode cX11_sumBeyond 37 = .ok (.getfield 51, 3) := by decide +kernel
theorem dX11_sumBeyond_40 : decode cX11_sumBeyond 40 = .ok (.iload 11, 2) := by decide +kernel
theorem dX11_sumBeyond_42 : decode cX11_sumBeyond 42 = .ok (.laload, 1) := by decide +kernel
theorem dX11_sumBeyond_43 : decode cX11_sumBeyond 43 = .ok (.lmul, 1) := by decide +kernel
theorem dX11_sumBeyond_44 : decode cX11_sumBeyond 44 = .ok (.lload 8, 2) := by decide +kernel
theorem dX11_sumBeyond_46 : decode cX11_sumBeyond 46 = .ok (.aload_n 0, 1) := by decide +kernel
theorem dX11_sumBeyond_47 : decode cX11_sumBeyond 47 = .ok (.getfield 54, 3) := by decide +kernel
theorem dX11_sumBeyond_50 : decode cX11_sumBeyond 50 = .ok (.iload 11, 2) := by decide +kernel
theorem dX11_sumBeyond_52 : decode cX11_sumBeyond 52 = .ok (.laload, 1) := by decide +kernel
theorem dX11_sumBeyond_53 : decode cX11_sumBeyond 53 = .ok (.lmul, 1) := by decide +kernel
theorem dX11_sumBeyond_54 : decode cX11_sumBeyond 54 = .ok (.ladd, 1) := by decide +kernel
theorem dX11_sumBeyond_55 : decode cX11_sumBeyond 55 = .ok (.lstore 14, 2) := by decide +kernel
theorem dX11_sumBeyond_57 : decode cX11_sumBeyond 57 = .ok (.aload_n 0, 1) := by decide +kernel
theorem dX11_sumBeyond_58 : decode cX11_sumBeyond 58 = .ok (.getfield 51, 3) := by decide +kernel
theorem dX11_sumBeyond_61 : decode cX11_sumBeyond 61 = .ok (.iload 11, 2) := by decide +kernel
theorem dX11_sumBeyond_63 : decode cX11_sumBeyond 63 = .ok (.laload, 1) := by decide +kernel
theorem dX11_sumBeyond_64 : decode cX11_sumBeyond 64 = .ok (.lconst 0, 1) := by decide +kernel
theorem dX11_sumBeyond_65 : decode cX11_sumBeyond 65 = .ok (.lcmp, 1) := by decide +kernel
theorem dX11_sumBeyond_66 : decode cX11_sumBeyond 66 = .ok (.ifCond .ne 19, 3) := by decide +kernel
theorem dX11_sumBeyond_69 : decode cX11_sumBeyond 69 = .ok (.aload_n 0, 1) := by decide +kernel
theorem dX11_sumBeyond_70 : decode cX11_sumBeyond 70 = .ok (.getfield 54, 3) := by decide +kernel
theorem dX11_sumBeyond_73 : decode cX11_sumBeyond 73 = .ok (.iload 11, 2) := by decide +kernel
theorem dX11_sumBeyond_75 : decode cX11_sumBeyond 75 = .ok (.laload, 1) := by decide +kernel
theorem dX11_sumBeyond_76 : decode cX11_sumBeyond 76 = .ok (.lconst 0, 1) := by decide +kernel
theorem dX11_sumBeyond_77 : decode cX11_sumBeyond 77 = .ok (.lcmp, 1) := by decide +kernel
theorem dX11_sumBeyond_78 : decode cX11_sumBeyond 78 = .ok (.ifCond .ne 7, 3) := by decide +kernel
theorem dX11_sumBeyond_81 : decode cX11_sumBeyond 81 = .ok (.iconst 1, 1) := by decide +kernel
theorem dX11_sumBeyond_82 : decode cX11_sumBeyond 82 = .ok (.goto 4, 3) := by decide +kernel
theorem dX11_sumBeyond_85 : decode cX11_sumBeyond 85 = .ok (.iconst 0, 1) := by decide +kernel
theorem dX11_sumBeyond_86 : decode cX11_sumBeyond 86 = .ok (.istore 16, 2) := by decide +kernel
theorem dX11_sumBeyond_88 : decode cX11_sumBeyond 88 = .ok (.iload 10, 2) := by decide +kernel
theorem dX11_sumBeyond_90 : decode cX11_sumBeyond 90 = .ok (.iload 16, 2) := by decide +kernel
theorem dX11_sumBeyond_92 : decode cX11_sumBeyond 92 = .ok (.ifCond .ne 24, 3) := by decide +kernel
theorem dX11_sumBeyond_95 : decode cX11_sumBeyond 95 = .ok (.lload 12, 2) := by decide +kernel
theorem dX11_sumBeyond_97 : decode cX11_sumBeyond 97 = .ok (.lconst 0, 1) := by decide +kernel
theorem dX11_sumBeyond_98 : decode cX11_sumBeyond 98 = .ok (.lcmp, 1) := by decide +kernel
theorem dX11_sumBeyond_99 : decode cX11_sumBeyond 99 = .ok (.ifCond .gt 17, 3) := by decide +kernel
theorem dX11_sumBeyond_102 : decode cX11_sumBeyond 102 = .ok (.lload 12, 2) := by decide +kernel
theorem dX11_sumBeyond_104 : decode cX11_sumBeyond 104 = .ok (.lconst 0, 1) := by decide +kernel
theorem dX11_sumBeyond_105 : decode cX11_sumBeyond 105 = .ok (.lcmp, 1) := by decide +kernel
theorem dX11_sumBeyond_106 : decode cX11_sumBeyond 106 = .ok (.ifCond .ne 20, 3) := by decide +kernel
theorem dX11_sumBeyond_109 : decode cX11_sumBeyond 109 = .ok (.lload 14, 2) := by decide +kernel
theorem dX11_sumBeyond_111 : decode cX11_sumBeyond 111 = .ok (.lconst 0, 1) := by decide +kernel
theorem dX11_sumBeyond_112 : decode cX11_sumBeyond 112 = .ok (.lcmp, 1) := by decide +kernel
theorem dX11_sumBeyond_113 : decode cX11_sumBeyond 113 = .ok (.ifCond .le 13, 3) := by decide +kernel
theorem dX11_sumBeyond_116 : decode cX11_sumBeyond 116 = .ok (.aload_n 0, 1) := by decide +kernel
theorem dX11_sumBeyond_117 : decode cX11_sumBeyond 117 = .ok (.getfield 57, 3) := by decide +kernel
theorem dX11_sumBeyond_120 : decode cX11_sumBeyond 120 = .ok (.iload 11, 2) := by decide +kernel
theorem dX11_sumBeyond_122 : decode cX11_sumBeyond 122 = .ok (.iaload, 1) := by decide +kernel
theorem dX11_sumBeyond_123 : decode cX11_sumBeyond 123 = .ok (.goto 4, 3) := by decide +kernel
theorem dX11_sumBeyond_126 : decode cX11_sumBeyond 126 = .ok (.iconst 0, 1) := by decide +kernel
theorem dX11_sumBeyond_127 : decode cX11_sumBeyond 127 = .ok (.iadd, 1) := by decide +kernel
theorem dX11_sumBeyond_128 : decode cX11_sumBeyond 128 = .ok (.istore 10, 2) := by decide +kernel
theorem dX11_sumBeyond_130 : decode cX11_sumBeyond 130 = .ok (.iinc 11 1, 3) := by decide +kernel
theorem dX11_sumBeyond_133 : decode cX11_sumBeyond 133 = .ok (.goto (-127), 3) := by decide +kernel
theorem dX11_sumBeyond_136 : decode cX11_sumBeyond 136 = .ok (.iload 10, 2) := by decide +kernel
theorem dX11_sumBeyond_138 : decode cX11_sumBeyond 138 = .ok (.ireturn, 1) := by decide +kernel
theorem dX11_depthOf_0 : decode cX11_depthOf 0 = .ok (.iconst 0, 1) := by decide +kernel
theorem dX11_depthOf_1 : decode cX11_depthOf 1 = .ok (.istore 7, 2) := by decide +kernel
theorem dX11_depthOf_3 : decode cX11_depthOf 3 = .ok (.iconst 0, 1) := by decide +kernel
theorem dX11_depthOf_4 : decode cX11_depthOf 4 = .ok (.istore 8, 2) := by decide +kernel
theorem dX11_depthOf_6 : decode cX11_depthOf 6 = .ok (.iconst 0, 1) := by decide +kernel
theorem dX11_depthOf_7 : decode cX11_depthOf 7 = .ok (.istore 9, 2) := by decide +kernel
theorem dX11_depthOf_9 : decode cX11_depthOf 9 = .ok (.iload 9, 2) := by decide +kernel
theorem dX11_depthOf_11 : decode cX11_depthOf 11 = .ok (.aload_n 0, 1) := by decide +kernel
theorem dX11_depthOf_12 : decode cX11_depthOf 12 = .ok (.getfield 101, 3) := by decide +kernel
theorem dX11_depthOf_15 : decode cX11_depthOf 15 = .ok (.if_icmp .ge 87, 3) := by decide +kernel
theorem dX11_depthOf_18 : decode cX11_depthOf 18 = .ok (.aload_n 0, 1) := by decide +kernel
theorem dX11_depthOf_19 : decode cX11_depthOf 19 = .ok (.getfield 22, 3) := by decide +kernel
theorem dX11_depthOf_22 : decode cX11_depthOf 22 = .ok (.iload 9, 2) := by decide +kernel
theorem dX11_depthOf_24 : decode cX11_depthOf 24 = .ok (.baload, 1) := by decide +kernel
theorem dX11_depthOf_25 : decode cX11_depthOf 25 = .ok (.ifCond .ne 71, 3) := by decide +kernel
theorem dX11_depthOf_28 : decode cX11_depthOf 28 = .ok (.aload_n 0, 1) := by decide +kernel
theorem dX11_depthOf_29 : decode cX11_depthOf 29 = .ok (.getfield 51, 3) := by decide +kernel
theorem dX11_depthOf_32 : decode cX11_depthOf 32 = .ok (.iload 7, 2) := by decide +kernel
theorem dX11_depthOf_34 : decode cX11_depthOf 34 = .ok (.aload_n 0, 1) := by decide +kernel
theorem dX11_depthOf_35 : decode cX11_depthOf 35 = .ok (.getfield 7, 3) := by decide +kernel
theorem dX11_depthOf_38 : decode cX11_depthOf 38 = .ok (.iload 9, 2) := by decide +kernel
theorem dX11_depthOf_40 : decode cX11_depthOf 40 = .ok (.iaload, 1) := by decide +kernel
theorem dX11_depthOf_41 : decode cX11_depthOf 41 = .ok (.i2l, 1) := by decide +kernel
theorem dX11_depthOf_42 : decode cX11_depthOf 42 = .ok (.lload 5, 2) := by decide +kernel
theorem dX11_depthOf_44 : decode cX11_depthOf 44 = .ok (.lmul, 1) := by decide +kernel
theorem dX11_depthOf_45 : decode cX11_depthOf 45 = .ok (.lload_n 1, 1) := by decide +kernel
theorem dX11_depthOf_46 : decode cX11_depthOf 46 = .ok (.lsub, 1) := by decide +kernel
theorem dX11_depthOf_47 : decode cX11_depthOf 47 = .ok (.lastore, 1) := by decide +kernel
theorem dX11_depthOf_48 : decode cX11_depthOf 48 = .ok (.aload_n 0, 1) := by decide +kernel
theorem dX11_depthOf_49 : decode cX11_depthOf 49 = .ok (.getfield 54, 3) := by decide +kernel
theorem dX11_depthOf_52 : decode cX11_depthOf 52 = .ok (.iload 7, 2) := by decide +kernel
theorem dX11_depthOf_54 : decode cX11_depthOf 54 = .ok (.aload_n 0, 1) := by decide +kernel
theorem dX11_depthOf_55 : decode cX11_depthOf 55 = .ok (.getfield 13, 3) := by decide +kernel
theorem dX11_depthOf_58 : decode cX11_depthOf 58 = .ok (.iload 9, 2) := by decide +kernel
theorem dX11_depthOf_60 : decode cX11_depthOf 60 = .ok (.iaload, 1) := by decide +kernel
theorem dX11_depthOf_61 : decode cX11_depthOf 61 = .ok (.i2l, 1) := by decide +kernel
theorem dX11_depthOf_62 : decode cX11_depthOf 62 = .ok (.lload 5, 2) := by decide +kernel
theorem dX11_depthOf_64 : decode cX11_depthOf 64 = .ok (.lmul, 1) := by decide +kernel
theorem dX11_depthOf_65 : decode cX11_depthOf 65 = .ok (.lload_n 3, 1) := by decide +kernel
theorem dX11_depthOf_66 : decode cX11_depthOf 66 = .ok (.lsub, 1) := by decide +kernel
theorem dX11_depthOf_67 : decode cX11_depthOf 67 = .ok (.lastore, 1) := by decide +kernel
theorem dX11_depthOf_68 : decode cX11_depthOf 68 = .ok (.aload_n 0, 1) := by decide +kernel
theorem dX11_depthOf_69 : decode cX11_depthOf 69 = .ok (.getfield 57, 3) := by decide +kernel
theorem dX11_depthOf_72 : decode cX11_depthOf 72 = .ok (.iload 7, 2) := by decide +kernel
theorem dX11_depthOf_74 : decode cX11_depthOf 74 = .ok (.aload_n 0, 1) := by decide +kernel
theorem dX11_depthOf_75 : decode cX11_depthOf 75 = .ok (.iload 9, 2) := by decide +kernel
theorem dX11_depthOf_77 : decode cX11_depthOf 77 = .ok (.invokevirtual 166, 3) := by decide +kernel
theorem dX11_depthOf_80 : decode cX11_depthOf 80 = .ok (.iastore, 1) := by decide +kernel
theorem dX11_depthOf_81 : decode cX11_depthOf 81 = .ok (.iload 8, 2) := by decide +kernel
theorem dX11_depthOf_83 : decode cX11_depthOf 83 = .ok (.aload_n 0, 1) := by decide +kernel
theorem dX11_depthOf_84 : decode cX11_depthOf 84 = .ok (.getfield 57, 3) := by decide +kernel
theorem dX11_depthOf_87 : decode cX11_depthOf 87 = .ok (.iload 7, 2) := by decide +kernel
end
section
theorem dX11_depthOf_89 : decode cX11_depthOf 89 = .ok (.iaload, 1) := by decide +kernel
theorem dX11_depthOf_90 : decode cX11_depthOf 90 = .ok (.iadd, 1) := by decide +kernel
theorem dX11_depthOf_91 : decode cX11_depthOf 91 = .ok (.istore 8, 2) := by decide +kernel
theorem dX11_depthOf_93 : decode cX11_depthOf 93 = .ok (.iinc 7 1, 3) := by decide +kernel
theorem dX11_depthOf_96 : decode cX11_depthOf 96 = .ok (.iinc 9 1, 3) := by decide +kernel
theorem dX11_depthOf_99 : decode cX11_depthOf 99 = .ok (.goto (-90), 3) := by decide +kernel
theorem dX11_depthOf_102 : decode cX11_depthOf 102 = .ok (.iload 8, 2) := by decide +kernel
theorem dX11_depthOf_104 : decode cX11_depthOf 104 = .ok (.istore 9, 2) := by decide +kernel
theorem dX11_depthOf_106 : decode cX11_depthOf 106 = .ok (.iconst 0, 1) := by decide +kernel
theorem dX11_depthOf_107 : decode cX11_depthOf 107 = .ok (.istore 10, 2) := by decide +kernel
theorem dX11_depthOf_109 : decode cX11_depthOf 109 = .ok (.iload 10, 2) := by decide +kernel
theorem dX11_depthOf_111 : decode cX11_depthOf 111 = .ok (.iload 7, 2) := by decide +kernel
theorem dX11_depthOf_113 : decode cX11_depthOf 113 = .ok (.if_icmp .ge 144, 3) := by decide +kernel
theorem dX11_depthOf_116 : decode cX11_depthOf 116 = .ok (.aload_n 0, 1) := by decide +kernel
theorem dX11_depthOf_117 : decode cX11_depthOf 117 = .ok (.getfield 51, 3) := by decide +kernel
theorem dX11_depthOf_120 : decode cX11_depthOf 120 = .ok (.iload 10, 2) := by decide +kernel
theorem dX11_depthOf_122 : decode cX11_depthOf 122 = .ok (.laload, 1) := by decide +kernel
theorem dX11_depthOf_123 : decode cX11_depthOf 123 = .ok (.lconst 0, 1) := by decide +kernel
theorem dX11_depthOf_124 : decode cX11_depthOf 124 = .ok (.lcmp, 1) := by decide +kernel
theorem dX11_depthOf_125 : decode cX11_depthOf 125 = .ok (.ifCond .ne 15, 3) := by decide +kernel
theorem dX11_depthOf_128 : decode cX11_depthOf 128 = .ok (.aload_n 0, 1) := by decide +kernel
theorem dX11_depthOf_129 : decode cX11_depthOf 129 = .ok (.getfield 54, 3) := by decide +kernel
theorem dX11_depthOf_132 : decode cX11_depthOf 132 = .ok (.iload 10, 2) := by decide +kernel
theorem dX11_depthOf_134 : decode cX11_depthOf 134 = .ok (.laload, 1) := by decide +kernel
theorem dX11_depthOf_135 : decode cX11_depthOf 135 = .ok (.lconst 0, 1) := by decide +kernel
theorem dX11_depthOf_136 : decode cX11_depthOf 136 = .ok (.lcmp, 1) := by decide +kernel
theorem dX11_depthOf_137 : decode cX11_depthOf 137 = .ok (.ifCond .eq 114, 3) := by decide +kernel
theorem dX11_depthOf_140 : decode cX11_depthOf 140 = .ok (.iconst 0, 1) := by decide +kernel
theorem dX11_depthOf_141 : decode cX11_depthOf 141 = .ok (.istore 11, 2) := by decide +kernel
theorem dX11_depthOf_143 : decode cX11_depthOf 143 = .ok (.iload 11, 2) := by decide +kernel
theorem dX11_depthOf_145 : decode cX11_depthOf 145 = .ok (.iconst 4, 1) := by decide +kernel
theorem dX11_depthOf_146 : decode cX11_depthOf 146 = .ok (.if_icmp .ge 105, 3) := by decide +kernel
theorem dX11_depthOf_149 : decode cX11_depthOf 149 = .ok (.iload 11, 2) := by decide +kernel
theorem dX11_depthOf_151 : decode cX11_depthOf 151 = .ok (.iconst 2, 1) := by decide +kernel
theorem dX11_depthOf_152 : decode cX11_depthOf 152 = .ok (.if_icmp .ge 7, 3) := by decide +kernel
theorem dX11_depthOf_155 : decode cX11_depthOf 155 = .ok (.lconst 1, 1) := by decide +kernel
theorem dX11_depthOf_156 : decode cX11_depthOf 156 = .ok (.goto 6, 3) := by decide +kernel
theorem dX11_depthOf_159 : decode cX11_depthOf 159 = .ok (.ldc2_w 232, 3) := by decide +kernel
theorem dX11_depthOf_162 : decode cX11_depthOf 162 = .ok (.lstore 12, 2) := by decide +kernel
theorem dX11_depthOf_164 : decode cX11_depthOf 164 = .ok (.iload 11, 2) := by decide +kernel
theorem dX11_depthOf_166 : decode cX11_depthOf 166 = .ok (.iconst 2, 1) := by decide +kernel
theorem dX11_depthOf_167 : decode cX11_depthOf 167 = .ok (.irem, 1) := by decide +kernel
theorem dX11_depthOf_168 : decode cX11_depthOf 168 = .ok (.ifCond .ne 7, 3) := by decide +kernel
theorem dX11_depthOf_171 : decode cX11_depthOf 171 = .ok (.lconst 1, 1) := by decide +kernel
theorem dX11_depthOf_172 : decode cX11_depthOf 172 = .ok (.goto 6, 3) := by decide +kernel
theorem dX11_depthOf_175 : decode cX11_depthOf 175 = .ok (.ldc2_w 232, 3) := by decide +kernel
theorem dX11_depthOf_178 : decode cX11_depthOf 178 = .ok (.lstore 14, 2) := by decide +kernel
theorem dX11_depthOf_180 : decode cX11_depthOf 180 = .ok (.aload_n 0, 1) := by decide +kernel
theorem dX11_depthOf_181 : decode cX11_depthOf 181 = .ok (.iload 7, 2) := by decide +kernel
theorem dX11_depthOf_183 : decode cX11_depthOf 183 = .ok (.lload 12, 2) := by decide +kernel
theorem dX11_depthOf_185 : decode cX11_depthOf 185 = .ok (.lneg, 1) := by decide +kernel
theorem dX11_depthOf_186 : decode cX11_depthOf 186 = .ok (.aload_n 0, 1) := by decide +kernel
theorem dX11_depthOf_187 : decode cX11_depthOf 187 = .ok (.getfield 54, 3) := by decide +kernel
theorem dX11_depthOf_190 : decode cX11_depthOf 190 = .ok (.iload 10, 2) := by decide +kernel
theorem dX11_depthOf_192 : decode cX11_depthOf 192 = .ok (.laload, 1) := by decide +kernel
theorem dX11_depthOf_193 : decode cX11_depthOf 193 = .ok (.lmul, 1) := by decide +kernel
theorem dX11_depthOf_194 : decode cX11_depthOf 194 = .ok (.lload 12, 2) := by decide +kernel
theorem dX11_depthOf_196 : decode cX11_depthOf 196 = .ok (.aload_n 0, 1) := by decide +kernel
theorem dX11_depthOf_197 : decode cX11_depthOf 197 = .ok (.getfield 51, 3) := by decide +kernel
theorem dX11_depthOf_200 : decode cX11_depthOf 200 = .ok (.iload 10, 2) := by decide +kernel
theorem dX11_depthOf_202 : decode cX11_depthOf 202 = .ok (.laload, 1) := by decide +kernel
theorem dX11_depthOf_203 : decode cX11_depthOf 203 = .ok (.lmul, 1) := by decide +kernel
theorem dX11_depthOf_204 : decode cX11_depthOf 204 = .ok (.lload 14, 2) := by decide +kernel
theorem dX11_depthOf_206 : decode cX11_depthOf 206 = .ok (.aload_n 0, 1) := by decide +kernel
theorem dX11_depthOf_207 : decode cX11_depthOf 207 = .ok (.getfield 51, 3) := by decide +kernel
theorem dX11_depthOf_210 : decode cX11_depthOf 210 = .ok (.iload 10, 2) := by decide +kernel
theorem dX11_depthOf_212 : decode cX11_depthOf 212 = .ok (.laload, 1) := by decide +kernel
theorem dX11_depthOf_213 : decode cX11_depthOf 213 = .ok (.lmul, 1) := by decide +kernel
theorem dX11_depthOf_214 : decode cX11_depthOf 214 = .ok (.lload 14, 2) := by decide +kernel
theorem dX11_depthOf_216 : decode cX11_depthOf 216 = .ok (.aload_n 0, 1) := by decide +kernel
theorem dX11_depthOf_217 : decode cX11_depthOf 217 = .ok (.getfield 54, 3) := by decide +kernel
theorem dX11_depthOf_220 : decode cX11_depthOf 220 = .ok (.iload 10, 2) := by decide +kernel
theorem dX11_depthOf_222 : decode cX11_depthOf 222 = .ok (.laload, 1) := by decide +kernel
theorem dX11_depthOf_223 : decode cX11_depthOf 223 = .ok (.lmul, 1) := by decide +kernel
theorem dX11_depthOf_224 : decode cX11_depthOf 224 = .ok (.invokevirtual 234, 3) := by decide +kernel
theorem dX11_depthOf_227 : decode cX11_depthOf 227 = .ok (.istore 16, 2) := by decide +kernel
theorem dX11_depthOf_229 : decode cX11_depthOf 229 = .ok (.iload 16, 2) := by decide +kernel
theorem dX11_depthOf_231 : decode cX11_depthOf 231 = .ok (.iload 9, 2) := by decide +kernel
theorem dX11_depthOf_233 : decode cX11_depthOf 233 = .ok (.if_icmp .ge 8, 3) := by decide +kernel
theorem dX11_depthOf_236 : decode cX11_depthOf 236 = .ok (.iload 16, 2) := by decide +kernel
theorem dX11_depthOf_238 : decode cX11_depthOf 238 = .ok (.goto 5, 3) := by decide +kernel
theorem dX11_depthOf_241 : decode cX11_depthOf 241 = .ok (.iload 9, 2) := by decide +kernel
theorem dX11_depthOf_243 : decode cX11_depthOf 243 = .ok (.istore 9, 2) := by decide +kernel
theorem dX11_depthOf_245 : decode cX11_depthOf 245 = .ok (.iinc 11 1, 3) := by decide +kernel
theorem dX11_depthOf_248 : decode cX11_depthOf 248 = .ok (.goto (-105), 3) := by decide +kernel
theorem dX11_depthOf_251 : decode cX11_depthOf 251 = .ok (.iinc 10 1, 3) := by decide +kernel
theorem dX11_depthOf_254 : decode cX11_depthOf 254 = .ok (.goto (-145), 3) := by decide +kernel
theorem dX11_depthOf_257 : decode cX11_depthOf 257 = .ok (.iload 9, 2) := by decide +kernel
theorem dX11_depthOf_259 : decode cX11_depthOf 259 = .ok (.ireturn, 1) := by decide +kernel
theorem dX11_depth_0 : decode cX11_depth 0 = .ok (.iload_n 1, 1) := by decide +kernel
theorem dX11_depth_1 : decode cX11_depth 1 = .ok (.i2l, 1) := by decide +kernel
theorem dX11_depth_2 : decode cX11_depth 2 = .ok (.ldc2_w 177, 3) := by decide +kernel
theorem dX11_depth_5 : decode cX11_depth 5 = .ok (.ldc2_w 179, 3) := by decide +kernel
theorem dX11_depth_8 : decode cX11_depth 8 = .ok (.invokestatic 81, 3) := by decide +kernel
theorem dX11_depth_11 : decode cX11_depth 11 = .ok (.ifCond .eq 29, 3) := by decide +kernel
theorem dX11_depth_14 : decode cX11_depth 14 = .ok (.iload_n 2, 1) := by decide +kernel
theorem dX11_depth_15 : decode cX11_depth 15 = .ok (.i2l, 1) := by decide +kernel
theorem dX11_depth_16 : decode cX11_depth 16 = .ok (.ldc2_w 177, 3) := by decide +kernel
theorem dX11_depth_19 : decode cX11_depth 19 = .ok (.ldc2_w 179, 3) := by decide +kernel
theorem dX11_depth_22 : decode cX11_depth 22 = .ok (.invokestatic 81, 3) := by decide +kernel
theorem dX11_depth_25 : decode cX11_depth 25 = .ok (.ifCond .eq 15, 3) := by decide +kernel
theorem dX11_depth_28 : decode cX11_depth 28 = .ok (.iload_n 3, 1) := by decide +kernel
theorem dX11_depth_29 : decode cX11_depth 29 = .ok (.i2l, 1) := by decide +kernel
theorem dX11_depth_30 : decode cX11_depth 30 = .ok (.lconst 1, 1) := by decide +kernel
theorem dX11_depth_31 : decode cX11_depth 31 = .ok (.ldc2_w 238, 3) := by decide +kernel
theorem dX11_depth_34 : decode cX11_depth 34 = .ok (.invokestatic 81, 3) := by decide +kernel
theorem dX11_depth_37 : decode cX11_depth 37 = .ok (.ifCond .ne 6, 3) := by decide +kernel
theorem dX11_depth_40 : decode cX11_depth 40 = .ok (.ldc 91, 2) := by decide +kernel
theorem dX11_depth_42 : decode cX11_depth 42 = .ok (.ireturn, 1) := by decide +kernel
theorem dX11_depth_43 : decode cX11_depth 43 = .ok (.aload_n 0, 1) := by decide +kernel
theorem dX11_depth_44 : decode cX11_depth 44 = .ok (.iload_n 1, 1) := by decide +kernel
theorem dX11_depth_45 : decode cX11_depth 45 = .ok (.i2l, 1) := by decide +kernel
theorem dX11_depth_46 : decode cX11_depth 46 = .ok (.iload_n 2, 1) := by decide +kernel
theorem dX11_depth_47 : decode cX11_depth 47 = .ok (.i2l, 1) := by decide +kernel
theorem dX11_depth_48 : decode cX11_depth 48 = .ok (.iload_n 3, 1) := by decide +kernel
theorem dX11_depth_49 : decode cX11_depth 49 = .ok (.i2l, 1) := by decide +kernel
theorem dX11_depth_50 : decode cX11_depth 50 = .ok (.invokevirtual 240, 3) := by decide +kernel
theorem dX11_depth_53 : decode cX11_depth 53 = .ok (.ireturn, 1) := by decide +kernel
theorem dX11_offer_0 : decode cX11_offer 0 = .ok (.aload_n 0, 1) := by decide +kernel
theorem dX11_offer_1 : decode cX11_offer 1 = .ok (.lload_n 1, 1) := by decide +kernel
theorem dX11_offer_2 : decode cX11_offer 2 = .ok (.lload_n 3, 1) := by decide +kernel
theorem dX11_offer_3 : decode cX11_offer 3 = .ok (.lload 5, 2) := by decide +kernel
theorem dX11_offer_5 : decode cX11_offer 5 = .ok (.invokevirtual 240, 3) := by decide +kernel
theorem dX11_offer_8 : decode cX11_offer 8 = .ok (.istore 7, 2) := by decide +kernel
theorem dX11_offer_10 : decode cX11_offer 10 = .ok (.lload_n 1, 1) := by decide +kernel
theorem dX11_offer_11 : decode cX11_offer 11 = .ok (.aload_n 0, 1) := by decide +kernel
theorem dX11_offer_12 : decode cX11_offer 12 = .ok (.getfield 244, 3) := by decide +kernel
theorem dX11_offer_15 : decode cX11_offer 15 = .ok (.lmul, 1) := by decide +kernel
theorem dX11_offer_16 : decode cX11_offer 16 = .ok (.aload_n 0, 1) := by decide +kernel
theorem dX11_offer_17 : decode cX11_offer 17 = .ok (.getfield 247, 3) := by decide +kernel
theorem dX11_offer_20 : decode cX11_offer 20 = .ok (.lload 5, 2) := by decide +kernel
theorem dX11_offer_22 : decode cX11_offer 22 = .ok (.lmul, 1) := by decide +kernel
theorem dX11_offer_23 : decode cX11_offer 23 = .ok (.lsub, 1) := by decide +kernel
theorem dX11_offer_24 : decode cX11_offer 24 = .ok (.lstore 8, 2) := by decide +kernel
theorem dX11_offer_26 : decode cX11_offer 26 = .ok (.lload_n 3, 1) := by decide +kernel
theorem dX11_offer_27 : decode cX11_offer 27 = .ok (.aload_n 0, 1) := by decide +kernel
theorem dX11_offer_28 : decode cX11_offer 28 = .ok (.getfield 244, 3) := by decide +kernel
theorem dX11_offer_31 : decode cX11_offer 31 = .ok (.lmul, 1) := by decide +kernel
theorem dX11_offer_32 : decode cX11_offer 32 = .ok (.aload_n 0, 1) := by decide +kernel
theorem dX11_offer_33 : decode cX11_offer 33 = .ok (.getfield 250, 3) := by decide +kernel
theorem dX11_offer_36 : decode cX11_offer 36 = .ok (.lload 5, 2) := by decide +kernel
theorem dX11_offer_38 : decode cX11_offer 38 = .ok (.lmul, 1) := by decide +kernel
theorem dX11_offer_39 : decode cX11_offer 39 = .ok (.lsub, 1) := by decide +kernel
theorem dX11_offer_40 : decode cX11_offer 40 = .ok (.lstore 10, 2) := by decide +kernel
theorem dX11_offer_42 : decode cX11_offer 42 = .ok (.iload 7, 2) := by decide +kernel
theorem dX11_offer_44 : decode cX11_offer 44 = .ok (.aload_n 0, 1) := by decide +kernel
theorem dX11_offer_45 : decode cX11_offer 45 = .ok (.getfield 253, 3) := by decide +kernel
theorem dX11_offer_48 : decode cX11_offer 48 = .ok (.if_icmp .gt 33, 3) := by decide +kernel
theorem dX11_offer_51 : decode cX11_offer 51 = .ok (.iload 7, 2) := by decide +kernel
theorem dX11_offer_53 : decode cX11_offer 53 = .ok (.aload_n 0, 1) := by decide +kernel
theorem dX11_offer_54 : decode cX11_offer 54 = .ok (.getfield 253, 3) := by decide +kernel
theorem dX11_offer_57 : decode cX11_offer 57 = .ok (.if_icmp .ne 46, 3) := by decide +kernel
theorem dX11_offer_60 : decode cX11_offer 60 = .ok (.lload 8, 2) := by decide +kernel
theorem dX11_offer_62 : decode cX11_offer 62 = .ok (.lconst 0, 1) := by decide +kernel
theorem dX11_offer_63 : decode cX11_offer 63 = .ok (.lcmp, 1) := by decide +kernel
theorem dX11_offer_64 : decode cX11_offer 64 = .ok (.ifCond .lt 17, 3) := by decide +kernel
theorem dX11_offer_67 : decode cX11_offer 67 = .ok (.lload 8, 2) := by decide +kernel
theorem dX11_offer_69 : decode cX11_offer 69 = .ok (.lconst 0, 1) := by decide +kernel
theorem dX11_offer_70 : decode cX11_offer 70 = .ok (.lcmp, 1) := by decide +kernel
theorem dX11_offer_71 : decode cX11_offer 71 = .ok (.ifCond .ne 32, 3) := by decide +kernel
theorem dX11_offer_74 : decode cX11_offer 74 = .ok (.lload 10, 2) := by decide +kernel
theorem dX11_offer_76 : decode cX11_offer 76 = .ok (.lconst 0, 1) := by decide +kernel
theorem dX11_offer_77 : decode cX11_offer 77 = .ok (.lcmp, 1) := by decide +kernel
theorem dX11_offer_78 : decode cX11_offer 78 = .ok (.ifCond .ge 25, 3) := by decide +kernel
theorem dX11_offer_81 : decode cX11_offer 81 = .ok (.aload_n 0, 1) := by decide +kernel
theorem dX11_offer_82 : decode cX11_offer 82 = .ok (.iload 7, 2) := by decide +kernel
theorem dX11_offer_84 : decode cX11_offer 84 = .ok (.putfield 253, 3) := by decide +kernel
theorem dX11_offer_87 : decode cX11_offer 87 = .ok (.aload_n 0, 1) := by decide +kernel
theorem dX11_offer_88 : decode cX11_offer 88 = .ok (.lload_n 1, 1) := by decide +kernel
theorem dX11_offer_89 : decode cX11_offer 89 = .ok (.putfield 247, 3) := by decide +kernel
theorem dX11_offer_92 : decode cX11_offer 92 = .ok (.aload_n 0, 1) := by decide +kernel
theorem dX11_offer_93 : decode cX11_offer 93 = .ok (.lload_n 3, 1) := by decide +kernel
theorem dX11_offer_94 : decode cX11_offer 94 = .ok (.putfield 250, 3) := by decide +kernel
theorem dX11_offer_97 : decode cX11_offer 97 = .ok (.aload_n 0, 1) := by decide +kernel
theorem dX11_offer_98 : decode cX11_offer 98 = .ok (.lload 5, 2) := by decide +kernel
theorem dX11_offer_100 : decode cX11_offer 100 = .ok (.putfield 244, 3) := by decide +kernel
theorem dX11_offer_103 : decode cX11_offer 103 = .ok (.return_, 1) := by decide +kernel
theorem dX11_deepest_0 : decode cX11_deepest 0 = .ok (.iload_n 1, 1) := by decide +kernel
theorem dX11_deepest_1 : decode cX11_deepest 1 = .ok (.i2l, 1) := by decide +kernel
theorem dX11_deepest_2 : decode cX11_deepest 2 = .ok (.lconst 0, 1) := by decide +kernel
theorem dX11_deepest_3 : decode cX11_deepest 3 = .ok (.ldc2_w 120, 3) := by decide +kernel
theorem dX11_deepest_6 : decode cX11_deepest 6 = .ok (.invokestatic 81, 3) := by decide +kernel
theorem dX11_deepest_9 : decode cX11_deepest 9 = .ok (.ifCond .ne 7, 3) := by decide +kernel
theorem dX11_deepest_12 : decode cX11_deepest 12 = .ok (.ldc2_w 99, 3) := by decide +kernel
theorem dX11_deepest_15 : decode cX11_deepest 15 = .ok (.lreturn, 1) := by decide +kernel
theorem dX11_deepest_16 : decode cX11_deepest 16 = .ok (.aload_n 0, 1) := by decide +kernel
theorem dX11_deepest_17 : decode cX11_deepest 17 = .ok (.invokevirtual 134, 3) := by decide +kernel
theorem dX11_deepest_20 : decode cX11_deepest 20 = .ok (.ifCond .ne 7, 3) := by decide +kernel
theorem dX11_deepest_23 : decode cX11_deepest 23 = .ok (.ldc2_w 256, 3) := by decide +kernel
theorem dX11_deepest_26 : decode cX11_deepest 26 = .ok (.lreturn, 1) := by decide +kernel
theorem dX11_deepest_27 : decode cX11_deepest 27 = .ok (.aload_n 0, 1) := by decide +kernel
theorem dX11_deepest_28 : decode cX11_deepest 28 = .ok (.invokevirtual 134, 3) := by decide +kernel
theorem dX11_deepest_31 : decode cX11_deepest 31 = .ok (.bipush 12, 2) := by decide +kernel
theorem dX11_deepest_33 : decode cX11_deepest 33 = .ok (.if_icmp .le 7, 3) := by decide +kernel
theorem dX11_deepest_36 : decode cX11_deepest 36 = .ok (.ldc2_w 258, 3) := by decide +kernel
theorem dX11_deepest_39 : decode cX11_deepest 39 = .ok (.lreturn, 1) := by decide +kernel
theorem dX11_deepest_40 : decode cX11_deepest 40 = .ok (.aload_n 0, 1) := by decide +kernel
theorem dX11_deepest_41 : decode cX11_deepest 41 = .ok (.iconst (-1), 1) := by decide +kernel
theorem dX11_deepest_42 : decode cX11_deepest 42 = .ok (.putfield 253, 3) := by decide +kernel
theorem dX11_deepest_45 : decode cX11_deepest 45 = .ok (.aload_n 0, 1) := by decide +kernel
theorem dX11_deepest_46 : decode cX11_deepest 46 = .ok (.lconst 0, 1) := by decide +kernel
theorem dX11_deepest_47 : decode cX11_deepest 47 = .ok (.putfield 247, 3) := by decide +kernel
theorem dX11_deepest_50 : decode cX11_deepest 50 = .ok (.aload_n 0, 1) := by decide +kernel
theorem dX11_deepest_51 : decode cX11_deepest 51 = .ok (.lconst 0, 1) := by decide +kernel
theorem dX11_deepest_52 : decode cX11_deepest 52 = .ok (.putfield 250, 3) := by decide +kernel
theorem dX11_deepest_55 : decode cX11_deepest 55 = .ok (.aload_n 0, 1) := by decide +kernel
theorem dX11_deepest_56 : decode cX11_deepest 56 = .ok (.lconst 1, 1) := by decide +kernel
theorem dX11_deepest_57 : decode cX11_deepest 57 = .ok (.putfield 244, 3) := by decide +kernel
theorem dX11_deepest_60 : decode cX11_deepest 60 = .ok (.iconst 0, 1) := by decide +kernel
theorem dX11_deepest_61 : decode cX11_deepest 61 = .ok (.istore_n 2, 1) := by decide +kernel
theorem dX11_deepest_62 : decode cX11_deepest 62 = .ok (.iconst 0, 1) := by decide +kernel
theorem dX11_deepest_63 : decode cX11_deepest 63 = .ok (.istore_n 3, 1) := by decide +kernel
theorem dX11_deepest_64 : decode cX11_deepest 64 = .ok (.iload_n 3, 1) := by decide +kernel
theorem dX11_deepest_65 : decode cX11_deepest 65 = .ok (.aload_n 0, 1) := by decide +kernel
theorem dX11_deepest_66 : decode cX11_deepest 66 = .ok (.getfield 101, 3) := by decide +kernel
theorem dX11_deepest_69 : decode cX11_deepest 69 = .ok (.if_icmp .ge 117, 3) := by decide +kernel
theorem dX11_deepest_72 : decode cX11_deepest 72 = .ok (.aload_n 0, 1) := by decide +kernel
theorem dX11_deepest_73 : decode cX11_deepest 73 = .ok (.getfield 22, 3) := by decide +kernel
theorem dX11_deepest_76 : decode cX11_deepest 76 = .ok (.iload_n 3, 1) := by decide +kernel
theorem dX11_deepest_77 : decode cX11_deepest 77 = .ok (.baload, 1) := by decide +kernel
theorem dX11_deepest_78 : decode cX11_deepest 78 = .ok (.ifCond .ne 102, 3) := by decide +kernel
theorem dX11_deepest_81 : decode cX11_deepest 81 = .ok (.aload_n 0, 1) := by decide +kernel
theorem dX11_deepest_82 : decode cX11_deepest 82 = .ok (.aload_n 0, 1) := by decide +kernel
theorem dX11_deepest_83 : decode cX11_deepest 83 = .ok (.getfield 7, 3) := by decide +kernel
theorem dX11_deepest_86 : decode cX11_deepest 86 = .ok (.iload_n 3, 1) := by decide +kernel
theorem dX11_deepest_87 : decode cX11_deepest 87 = .ok (.iaload, 1) := by decide +kernel
theorem dX11_deepest_88 : decode cX11_deepest 88 = .ok (.i2l, 1) := by decide +kernel
theorem dX11_deepest_89 : decode cX11_deepest 89 = .ok (.aload_n 0, 1) := by decide +kernel
theorem dX11_deepest_90 : decode cX11_deepest 90 = .ok (.getfield 13, 3) := by decide +kernel
theorem dX11_deepest_93 : decode cX11_deepest 93 = .ok (.iload_n 3, 1) := by decide +kernel
theorem dX11_deepest_94 : decode cX11_deepest 94 = .ok (.iaload, 1) := by decide +kernel
theorem dX11_deepest_95 : decode cX11_deepest 95 = .ok (.i2l, 1) := by decide +kernel
theorem dX11_deepest_96 : decode cX11_deepest 96 = .ok (.lconst 1, 1) := by decide +kernel
theorem dX11_deepest_97 : decode cX11_deepest 97 = .ok (.invokevirtual 260, 3) := by decide +kernel
theorem dX11_deepest_100 : decode cX11_deepest 100 = .ok (.iload_n 3, 1) := by decide +kernel
theorem dX11_deepest_101 : decode cX11_deepest 101 = .ok (.iconst 1, 1) := by decide +kernel
theorem dX11_deepest_102 : decode cX11_deepest 102 = .ok (.iadd, 1) := by decide +kernel
theorem dX11_deepest_103 : decode cX11_deepest 103 = .ok (.istore 4, 2) := by decide +kernel
theorem dX11_deepest_105 : decode cX11_deepest 105 = .ok (.iload 4, 2) := by decide +kernel
theorem dX11_deepest_107 : decode cX11_deepest 107 = .ok (.aload_n 0, 1) := by decide +kernel
theorem dX11_deepest_108 : decode cX11_deepest 108 = .ok (.getfield 101, 3) := by decide +kernel
theorem dX11_deepest_111 : decode cX11_deepest 111 = .ok (.if_icmp .ge 69, 3) := by decide +kernel
theorem dX11_deepest_114 : decode cX11_deepest 114 = .ok (.aload_n 0, 1) := by decide +kernel
theorem dX11_deepest_115 : decode cX11_deepest 115 = .ok (.getfield 22, 3) := by decide +kernel
theorem dX11_deepest_118 : decode cX11_deepest 118 = .ok (.iload 4, 2) := by decide +kernel
theorem dX11_deepest_120 : decode cX11_deepest 120 = .ok (.baload, 1) := by decide +kernel
theorem dX11_deepest_121 : decode cX11_deepest 121 = .ok (.ifCond .ne 53, 3) := by decide +kernel
theorem dX11_deepest_124 : decode cX11_deepest 124 = .ok (.aload_n 0, 1) := by decide +kernel
theorem dX11_deepest_125 : decode cX11_deepest 125 = .ok (.iload_n 3, 1) := by decide +kernel
theorem dX11_deepest_126 : decode cX11_deepest 126 = .ok (.iload 4, 2) := by decide +kernel
theorem dX11_deepest_128 : decode cX11_deepest 128 = .ok (.invokevirtual 200, 3) := by decide +kernel
theorem dX11_deepest_131 : decode cX11_deepest 131 = .ok (.ifCond .eq 43, 3) := by decide +kernel
theorem dX11_deepest_134 : decode cX11_deepest 134 = .ok (.aload_n 0, 1) := by decide +kernel
theorem dX11_deepest_135 : decode cX11_deepest 135 = .ok (.iload_n 3, 1) := by decide +kernel
theorem dX11_deepest_136 : decode cX11_deepest 136 = .ok (.iload 4, 2) := by decide +kernel
theorem dX11_deepest_138 : decode cX11_deepest 138 = .ok (.invokevirtual 203, 3) := by decide +kernel
theorem dX11_deepest_141 : decode cX11_deepest 141 = .ok (.aload_n 0, 1) := by decide +kernel
theorem dX11_deepest_142 : decode cX11_deepest 142 = .ok (.getfield 60, 3) := by decide +kernel
theorem dX11_deepest_145 : decode cX11_deepest 145 = .ok (.iload_n 2, 1) := by decide +kernel
theorem dX11_deepest_146 : decode cX11_deepest 146 = .ok (.aload_n 0, 1) := by decide +kernel
theorem dX11_deepest_147 : decode cX11_deepest 147 = .ok (.getfield 191, 3) := by decide +kernel
theorem dX11_deepest_150 : decode cX11_deepest 150 = .ok (.lastore, 1) := by decide +kernel
theorem dX11_deepest_151 : decode cX11_deepest 151 = .ok (.aload_n 0, 1) := by decide +kernel
theorem dX11_deepest_152 : decode cX11_deepest 152 = .ok (.getfield 63, 3) := by decide +kernel
theorem dX11_deepest_155 : decode cX11_deepest 155 = .ok (.iload_n 2, 1) := by decide +kernel
theorem dX11_deepest_156 : decode cX11_deepest 156 = .ok (.aload_n 0, 1) := by decide +kernel
theorem dX11_deepest_157 : decode cX11_deepest 157 = .ok (.getfield 194, 3) := by decide +kernel
theorem dX11_deepest_160 : decode cX11_deepest 160 = .ok (.lastore, 1) := by decide +kernel
theorem dX11_deepest_161 : decode cX11_deepest 161 = .ok (.aload_n 0, 1) := by decide +kernel
theorem dX11_deepest_162 : decode cX11_deepest 162 = .ok (.getfield 66, 3) := by decide +kernel
theorem dX11_deepest_165 : decode cX11_deepest 165 = .ok (.iload_n 2, 1) := by decide +kernel
theorem dX11_deepest_166 : decode cX11_deepest 166 = .ok (.aload_n 0, 1) := by decide +kernel
theorem dX11_deepest_167 : decode cX11_deepest 167 = .ok (.getfield 197, 3) := by decide +kernel
theorem dX11_deepest_170 : decode cX11_deepest 170 = .ok (.lastore, 1) := by decide +kernel
theorem dX11_deepest_171 : decode cX11_deepest 171 = .ok (.iinc 2 1, 3) := by decide +kernel
theorem dX11_deepest_174 : decode cX11_deepest 174 = .ok (.iinc 4 1, 3) := by decide +kernel
theorem dX11_deepest_177 : decode cX11_deepest 177 = .ok (.goto (-72), 3) := by decide +kernel
theorem dX11_deepest_180 : decode cX11_deepest 180 = .ok (.iinc 3 1, 3) := by decide +kernel
theorem dX11_deepest_183 : decode cX11_deepest 183 = .ok (.goto (-119), 3) := by decide +kernel
theorem dX11_deepest_186 : decode cX11_deepest 186 = .ok (.iconst 0, 1) := by decide +kernel
theorem dX11_deepest_187 : decode cX11_deepest 187 = .ok (.istore_n 3, 1) := by decide +kernel
theorem dX11_deepest_188 : decode cX11_deepest 188 = .ok (.iload_n 3, 1) := by decide +kernel
theorem dX11_deepest_189 : decode cX11_deepest 189 = .ok (.iload_n 2, 1) := by decide +kernel
theorem dX11_deepest_190 : decode cX11_deepest 190 = .ok (.if_icmp .ge 173, 3) := by decide +kernel
theorem dX11_deepest_193 : decode cX11_deepest 193 = .ok (.iconst 0, 1) := by decide +kernel
theorem dX11_deepest_194 : decode cX11_deepest 194 = .ok (.istore 4, 2) := by decide +kernel
theorem dX11_deepest_196 : decode cX11_deepest 196 = .ok (.iload 4, 2) := by decide +kernel
theorem dX11_deepest_198 : decode cX11_deepest 198 = .ok (.iload_n 3, 1) := by decide +kernel
theorem dX11_deepest_199 : decode cX11_deepest 199 = .ok (.if_icmp .ge 158, 3) := by decide +kernel
theorem dX11_deepest_202 : decode cX11_deepest 202 = .ok (.aload_n 0, 1) := by decide +kernel
theorem dX11_deepest_203 : decode cX11_deepest 203 = .ok (.getfield 60, 3) := by decide +kernel
theorem dX11_deepest_206 : decode cX11_deepest 206 = .ok (.iload_n 3, 1) := by decide +kernel
theorem dX11_deepest_207 : decode cX11_deepest 207 = .ok (.laload, 1) := by decide +kernel
theorem dX11_deepest_208 : decode cX11_deepest 208 = .ok (.aload_n 0, 1) := by decide +kernel
theorem dX11_deepest_209 : decode cX11_deepest 209 = .ok (.getfield 63, 3) := by decide +kernel
theorem dX11_deepest_212 : decode cX11_deepest 212 = .ok (.iload 4, 2) := by decide +kernel
theorem dX11_deepest_214 : decode cX11_deepest 214 = .ok (.laload, 1) := by decide +kernel
theorem dX11_deepest_215 : decode cX11_deepest 215 = .ok (.lmul, 1) := by decide +kernel
theorem dX11_deepest_216 : decode cX11_deepest 216 = .ok (.aload_n 0, 1) := by decide +kernel
theorem dX11_deepest_217 : decode cX11_deepest 217 = .ok (.getfield 60, 3) := by decide +kernel
theorem dX11_deepest_220 : decode cX11_deepest 220 = .ok (.iload 4, 2) := by decide +kernel
theorem dX11_deepest_222 : decode cX11_deepest 222 = .ok (.laload, 1) := by decide +kernel
theorem dX11_deepest_223 : decode cX11_deepest 223 = .ok (.aload_n 0, 1) := by decide +kernel
theorem dX11_deepest_224 : decode cX11_deepest 224 = .ok (.getfield 63, 3) := by decide +kernel
theorem dX11_deepest_227 : decode cX11_deepest 227 = .ok (.iload_n 3, 1) := by decide +kernel
theorem dX11_deepest_228 : decode cX11_deepest 228 = .ok (.laload, 1) := by decide +kernel
theorem dX11_deepest_229 : decode cX11_deepest 229 = .ok (.lmul, 1) := by decide +kernel
theorem dX11_deepest_230 : decode cX11_deepest 230 = .ok (.lsub, 1) := by decide +kernel
theorem dX11_deepest_231 : decode cX11_deepest 231 = .ok (.lstore 5, 2) := by decide +kernel
theorem dX11_deepest_233 : decode cX11_deepest 233 = .ok (.aload_n 0, 1) := by decide +kernel
theorem dX11_deepest_234 : decode cX11_deepest 234 = .ok (.getfield 63, 3) := by decide +kernel
theorem dX11_deepest_237 : decode cX11_deepest 237 = .ok (.iload_n 3, 1) := by decide +kernel
theorem dX11_deepest_238 : decode cX11_deepest 238 = .ok (.laload, 1) := by decide +kernel
theorem dX11_deepest_239 : decode cX11_deepest 239 = .ok (.aload_n 0, 1) := by decide +kernel
theorem dX11_deepest_240 : decode cX11_deepest 240 = .ok (.getfield 66, 3) := by decide +kernel
theorem dX11_deepest_243 : decode cX11_deepest 243 = .ok (.iload 4, 2) := by decide +kernel
theorem dX11_deepest_245 : decode cX11_deepest 245 = .ok (.laload, 1) := by decide +kernel
theorem dX11_deepest_246 : decode cX11_deepest 246 = .ok (.lmul, 1) := by decide +kernel
theorem dX11_deepest_247 : decode cX11_deepest 247 = .ok (.aload_n 0, 1) := by decide +kernel
theorem dX11_deepest_248 : decode cX11_deepest 248 = .ok (.getfield 63, 3) := by decide +kernel
theorem dX11_deepest_251 : decode cX11_deepest 251 = .ok (.iload 4, 2) := by decide +kernel
theorem dX11_deepest_253 : decode cX11_deepest 253 = .ok (.laload, 1) := by decide +kernel
theorem dX11_deepest_254 : decode cX11_deepest 254 = .ok (.aload_n 0, 1) := by decide +kernel
theorem dX11_deepest_255 : decode cX11_deepest 255 = .ok (.getfield 66, 3) := by decide +kernel
theorem dX11_deepest_258 : decode cX11_deepest 258 = .ok (.iload_n 3, 1) := by decide +kernel
theorem dX11_deepest_259 : decode cX11_deepest 259 = .ok (.laload, 1) := by decide +kernel
theorem dX11_deepest_260 : decode cX11_deepest 260 = .ok (.lmul, 1) := by decide +kernel
theorem dX11_deepest_261 : decode cX11_deepest 261 = .ok (.lsub, 1) := by decide +kernel
theorem dX11_deepest_262 : decode cX11_deepest 262 = .ok (.lstore 7, 2) := by decide +kernel
theorem dX11_deepest_264 : decode cX11_deepest 264 = .ok (.aload_n 0, 1) := by decide +kernel
theorem dX11_deepest_265 : decode cX11_deepest 265 = .ok (.getfield 66, 3) := by decide +kernel
theorem dX11_deepest_268 : decode cX11_deepest 268 = .ok (.iload_n 3, 1) := by decide +kernel
theorem dX11_deepest_269 : decode cX11_deepest 269 = .ok (.laload, 1) := by decide +kernel
theorem dX11_deepest_270 : decode cX11_deepest 270 = .ok (.aload_n 0, 1) := by decide +kernel
theorem dX11_deepest_271 : decode cX11_deepest 271 = .ok (.getfield 60, 3) := by decide +kernel
theorem dX11_deepest_274 : decode cX11_deepest 274 = .ok (.iload 4, 2) := by decide +kernel
theorem dX11_deepest_276 : decode cX11_deepest 276 = .ok (.laload, 1) := by decide +kernel
theorem dX11_deepest_277 : decode cX11_deepest 277 = .ok (.lmul, 1) := by decide +kernel
theorem dX11_deepest_278 : decode cX11_deepest 278 = .ok (.aload_n 0, 1) := by decide +kernel
theorem dX11_deepest_279 : decode cX11_deepest 279 = .ok (.getfield 66, 3) := by decide +kernel
theorem dX11_deepest_282 : decode cX11_deepest 282 = .ok (.iload 4, 2) := by decide +kernel
theorem dX11_deepest_284 : decode cX11_deepest 284 = .ok (.laload, 1) := by decide +kernel
theorem dX11_deepest_285 : decode cX11_deepest 285 = .ok (.aload_n 0, 1) := by decide +kernel
theorem dX11_deepest_286 : decode cX11_deepest 286 = .ok (.getfield 60, 3) := by decide +kernel
theorem dX11_deepest_289 : decode cX11_deepest 289 = .ok (.iload_n 3, 1) := by decide +kernel
theorem dX11_deepest_290 : decode cX11_deepest 290 = .ok (.laload, 1) := by decide +kernel
theorem dX11_deepest_291 : decode cX11_deepest 291 = .ok (.lmul, 1) := by decide +kernel
theorem dX11_deepest_292 : decode cX11_deepest 292 = .ok (.lsub, 1) := by decide +kernel
theorem dX11_deepest_293 : decode cX11_deepest 293 = .ok (.lstore 9, 2) := by decide +kernel
theorem dX11_deepest_295 : decode cX11_deepest 295 = .ok (.lload 5, 2) := by decide +kernel
theorem dX11_deepest_297 : decode cX11_deepest 297 = .ok (.lconst 0, 1) := by decide +kernel
theorem dX11_deepest_298 : decode cX11_deepest 298 = .ok (.lcmp, 1) := by decide +kernel
theorem dX11_deepest_299 : decode cX11_deepest 299 = .ok (.ifCond .eq 52, 3) := by decide +kernel
theorem dX11_deepest_302 : decode cX11_deepest 302 = .ok (.aload_n 0, 1) := by decide +kernel
theorem dX11_deepest_303 : decode cX11_deepest 303 = .ok (.lload 5, 2) := by decide +kernel
theorem dX11_deepest_305 : decode cX11_deepest 305 = .ok (.lconst 0, 1) := by decide +kernel
theorem dX11_deepest_306 : decode cX11_deepest 306 = .ok (.lcmp, 1) := by decide +kernel
theorem dX11_deepest_307 : decode cX11_deepest 307 = .ok (.ifCond .ge 9, 3) := by decide +kernel
theorem dX11_deepest_310 : decode cX11_deepest 310 = .ok (.lload 7, 2) := by decide +kernel
theorem dX11_deepest_312 : decode cX11_deepest 312 = .ok (.lneg, 1) := by decide +kernel
theorem dX11_deepest_313 : decode cX11_deepest 313 = .ok (.goto 5, 3) := by decide +kernel
theorem dX11_deepest_316 : decode cX11_deepest 316 = .ok (.lload 7, 2) := by decide +kernel
theorem dX11_deepest_318 : decode cX11_deepest 318 = .ok (.lload 5, 2) := by decide +kernel
theorem dX11_deepest_320 : decode cX11_deepest 320 = .ok (.lconst 0, 1) := by decide +kernel
theorem dX11_deepest_321 : decode cX11_deepest 321 = .ok (.lcmp, 1) := by decide +kernel
theorem dX11_deepest_322 : decode cX11_deepest 322 = .ok (.ifCond .ge 9, 3) := by decide +kernel
theorem dX11_deepest_325 : decode cX11_deepest 325 = .ok (.lload 9, 2) := by decide +kernel
theorem dX11_deepest_327 : decode cX11_deepest 327 = .ok (.lneg, 1) := by decide +kernel
theorem dX11_deepest_328 : decode cX11_deepest 328 = .ok (.goto 5, 3) := by decide +kernel
theorem dX11_deepest_331 : decode cX11_deepest 331 = .ok (.lload 9, 2) := by decide +kernel
theorem dX11_deepest_333 : decode cX11_deepest 333 = .ok (.lload 5, 2) := by decide +kernel
theorem dX11_deepest_335 : decode cX11_deepest 335 = .ok (.lconst 0, 1) := by decide +kernel
theorem dX11_deepest_336 : decode cX11_deepest 336 = .ok (.lcmp, 1) := by decide +kernel
theorem dX11_deepest_337 : decode cX11_deepest 337 = .ok (.ifCond .ge 9, 3) := by decide +kernel
theorem dX11_deepest_340 : decode cX11_deepest 340 = .ok (.lload 5, 2) := by decide +kernel
theorem dX11_deepest_342 : decode cX11_deepest 342 = .ok (.lneg, 1) := by decide +kernel
theorem dX11_deepest_343 : decode cX11_deepest 343 = .ok (.goto 5, 3) := by decide +kernel
theorem dX11_deepest_346 : decode cX11_deepest 346 = .ok (.lload 5, 2) := by decide +kernel
theorem dX11_deepest_348 : decode cX11_deepest 348 = .ok (.invokevirtual 260, 3) := by decide +kernel
theorem dX11_deepest_351 : decode cX11_deepest 351 = .ok (.iinc 4 1, 3) := by decide +kernel
theorem dX11_deepest_354 : decode cX11_deepest 354 = .ok (.goto (-158), 3) := by decide +kernel
theorem dX11_deepest_357 : decode cX11_deepest 357 = .ok (.iinc 3 1, 3) := by decide +kernel
theorem dX11_deepest_360 : decode cX11_deepest 360 = .ok (.goto (-172), 3) := by decide +kernel
theorem dX11_deepest_363 : decode cX11_deepest 363 = .ok (.aload_n 0, 1) := by decide +kernel
theorem dX11_deepest_364 : decode cX11_deepest 364 = .ok (.getfield 247, 3) := by decide +kernel
theorem dX11_deepest_367 : decode cX11_deepest 367 = .ok (.aload_n 0, 1) := by decide +kernel
theorem dX11_deepest_368 : decode cX11_deepest 368 = .ok (.getfield 244, 3) := by decide +kernel
theorem dX11_deepest_371 : decode cX11_deepest 371 = .ok (.invokestatic 181, 3) := by decide +kernel
theorem dX11_deepest_374 : decode cX11_deepest 374 = .ok (.lstore_n 3, 1) := by decide +kernel
theorem dX11_deepest_375 : decode cX11_deepest 375 = .ok (.aload_n 0, 1) := by decide +kernel
theorem dX11_deepest_376 : decode cX11_deepest 376 = .ok (.getfield 250, 3) := by decide +kernel
theorem dX11_deepest_379 : decode cX11_deepest 379 = .ok (.aload_n 0, 1) := by decide +kernel
theorem dX11_deepest_380 : decode cX11_deepest 380 = .ok (.getfield 244, 3) := by decide +kernel
theorem dX11_deepest_383 : decode cX11_deepest 383 = .ok (.invokestatic 181, 3) := by decide +kernel
theorem dX11_deepest_386 : decode cX11_deepest 386 = .ok (.lstore 5, 2) := by decide +kernel
theorem dX11_deepest_388 : decode cX11_deepest 388 = .ok (.iload_n 1, 1) := by decide +kernel
theorem dX11_deepest_389 : decode cX11_deepest 389 = .ok (.tableswitch 59 0 3 #[31, 37, 44, 51], 31) := by decide +kernel
theorem dX11_deepest_420 : decode cX11_deepest 420 = .ok (.aload_n 0, 1) := by decide +kernel
theorem dX11_deepest_421 : decode cX11_deepest 421 = .ok (.getfield 253, 3) := by decide +kernel
theorem dX11_deepest_424 : decode cX11_deepest 424 = .ok (.i2l, 1) := by decide +kernel
theorem dX11_deepest_425 : decode cX11_deepest 425 = .ok (.lreturn, 1) := by decide +kernel
theorem dX11_deepest_426 : decode cX11_deepest 426 = .ok (.aload_n 0, 1) := by decide +kernel
theorem dX11_deepest_427 : decode cX11_deepest 427 = .ok (.getfield 247, 3) := by decide +kernel
theorem dX11_deepest_430 : decode cX11_deepest 430 = .ok (.lload_n 3, 1) := by decide +kernel
theorem dX11_deepest_431 : decode cX11_deepest 431 = .ok (.ldiv, 1) := by decide +kernel
theorem dX11_deepest_432 : decode cX11_deepest 432 = .ok (.lreturn, 1) := by decide +kernel
theorem dX11_deepest_433 : decode cX11_deepest 433 = .ok (.aload_n 0, 1) := by decide +kernel
theorem dX11_deepest_434 : decode cX11_deepest 434 = .ok (.getfield 244, 3) := by decide +kernel
theorem dX11_deepest_437 : decode cX11_deepest 437 = .ok (.lload_n 3, 1) := by decide +kernel
theorem dX11_deepest_438 : decode cX11_deepest 438 = .ok (.ldiv, 1) := by decide +kernel
theorem dX11_deepest_439 : decode cX11_deepest 439 = .ok (.lreturn, 1) := by decide +kernel
theorem dX11_deepest_440 : decode cX11_deepest 440 = .ok (.aload_n 0, 1) := by decide +kernel
theorem dX11_deepest_441 : decode cX11_deepest 441 = .ok (.getfield 250, 3) := by decide +kernel
theorem dX11_deepest_444 : decode cX11_deepest 444 = .ok (.lload 5, 2) := by decide +kernel
theorem dX11_deepest_446 : decode cX11_deepest 446 = .ok (.ldiv, 1) := by decide +kernel
theorem dX11_deepest_447 : decode cX11_deepest 447 = .ok (.lreturn, 1) := by decide +kernel
theorem dX11_deepest_448 : decode cX11_deepest 448 = .ok (.aload_n 0, 1) := by decide +kernel
theorem dX11_deepest_449 : decode cX11_deepest 449 = .ok (.getfield 244, 3) := by decide +kernel
theorem dX11_deepest_452 : decode cX11_deepest 452 = .ok (.lload 5, 2) := by decide +kernel
theorem dX11_deepest_454 : decode cX11_deepest 454 = .ok (.ldiv, 1) := by decide +kernel
theorem dX11_deepest_455 : decode cX11_deepest 455 = .ok (.lreturn, 1) := by decide +kernel
theorem dX11_isOnEdge_0 : decode cX11_isOnEdge 0 = .ok (.iconst 1, 1) := by decide +kernel
theorem dX11_isOnEdge_1 : decode cX11_isOnEdge 1 = .ok (.istore_n 2, 1) := by decide +kernel
theorem dX11_isOnEdge_2 : decode cX11_isOnEdge 2 = .ok (.iconst 0, 1) := by decide +kernel
theorem dX11_isOnEdge_3 : decode cX11_isOnEdge 3 = .ok (.istore_n 3, 1) := by decide +kernel
theorem dX11_isOnEdge_4 : decode cX11_isOnEdge 4 = .ok (.iload_n 3, 1) := by decide +kernel
theorem dX11_isOnEdge_5 : decode cX11_isOnEdge 5 = .ok (.aload_n 0, 1) := by decide +kernel
theorem dX11_isOnEdge_6 : decode cX11_isOnEdge 6 = .ok (.getfield 101, 3) := by decide +kernel
theorem dX11_isOnEdge_9 : decode cX11_isOnEdge 9 = .ok (.if_icmp .ge 146, 3) := by decide +kernel
theorem dX11_isOnEdge_12 : decode cX11_isOnEdge 12 = .ok (.aload_n 0, 1) := by decide +kernel
theorem dX11_isOnEdge_13 : decode cX11_isOnEdge 13 = .ok (.getfield 22, 3) := by decide +kernel
theorem dX11_isOnEdge_16 : decode cX11_isOnEdge 16 = .ok (.iload_n 3, 1) := by decide +kernel
theorem dX11_isOnEdge_17 : decode cX11_isOnEdge 17 = .ok (.baload, 1) := by decide +kernel
theorem dX11_isOnEdge_18 : decode cX11_isOnEdge 18 = .ok (.ifCond .ne 131, 3) := by decide +kernel
theorem dX11_isOnEdge_21 : decode cX11_isOnEdge 21 = .ok (.aload_n 0, 1) := by decide +kernel
theorem dX11_isOnEdge_22 : decode cX11_isOnEdge 22 = .ok (.getfield 69, 3) := by decide +kernel
theorem dX11_isOnEdge_25 : decode cX11_isOnEdge 25 = .ok (.iload_n 3, 1) := by decide +kernel
theorem dX11_isOnEdge_26 : decode cX11_isOnEdge 26 = .ok (.iaload, 1) := by decide +kernel
theorem dX11_isOnEdge_27 : decode cX11_isOnEdge 27 = .ok (.ifCond .ne 122, 3) := by decide +kernel
theorem dX11_isOnEdge_30 : decode cX11_isOnEdge 30 = .ok (.aload_n 0, 1) := by decide +kernel
theorem dX11_isOnEdge_31 : decode cX11_isOnEdge 31 = .ok (.iload_n 1, 1) := by decide +kernel
theorem dX11_isOnEdge_32 : decode cX11_isOnEdge 32 = .ok (.iload_n 3, 1) := by decide +kernel
theorem dX11_isOnEdge_33 : decode cX11_isOnEdge 33 = .ok (.invokevirtual 200, 3) := by decide +kernel
theorem dX11_isOnEdge_36 : decode cX11_isOnEdge 36 = .ok (.ifCond .eq 113, 3) := by decide +kernel
theorem dX11_isOnEdge_39 : decode cX11_isOnEdge 39 = .ok (.iconst 0, 1) := by decide +kernel
theorem dX11_isOnEdge_40 : decode cX11_isOnEdge 40 = .ok (.istore_n 2, 1) := by decide +kernel
theorem dX11_isOnEdge_41 : decode cX11_isOnEdge 41 = .ok (.aload_n 0, 1) := by decide +kernel
theorem dX11_isOnEdge_42 : decode cX11_isOnEdge 42 = .ok (.iload_n 1, 1) := by decide +kernel
theorem dX11_isOnEdge_43 : decode cX11_isOnEdge 43 = .ok (.iload_n 3, 1) := by decide +kernel
theorem dX11_isOnEdge_44 : decode cX11_isOnEdge 44 = .ok (.invokevirtual 203, 3) := by decide +kernel
theorem dX11_isOnEdge_47 : decode cX11_isOnEdge 47 = .ok (.iconst 0, 1) := by decide +kernel
theorem dX11_isOnEdge_48 : decode cX11_isOnEdge 48 = .ok (.istore 4, 2) := by decide +kernel
theorem dX11_isOnEdge_50 : decode cX11_isOnEdge 50 = .ok (.iconst 0, 1) := by decide +kernel
theorem dX11_isOnEdge_51 : decode cX11_isOnEdge 51 = .ok (.istore 5, 2) := by decide +kernel
theorem dX11_isOnEdge_53 : decode cX11_isOnEdge 53 = .ok (.iconst 0, 1) := by decide +kernel
theorem dX11_isOnEdge_54 : decode cX11_isOnEdge 54 = .ok (.istore 6, 2) := by decide +kernel
theorem dX11_isOnEdge_56 : decode cX11_isOnEdge 56 = .ok (.iload 6, 2) := by decide +kernel
theorem dX11_isOnEdge_58 : decode cX11_isOnEdge 58 = .ok (.aload_n 0, 1) := by decide +kernel
theorem dX11_isOnEdge_59 : decode cX11_isOnEdge 59 = .ok (.getfield 101, 3) := by decide +kernel
theorem dX11_isOnEdge_62 : decode cX11_isOnEdge 62 = .ok (.if_icmp .ge 75, 3) := by decide +kernel
theorem dX11_isOnEdge_65 : decode cX11_isOnEdge 65 = .ok (.aload_n 0, 1) := by decide +kernel
theorem dX11_isOnEdge_66 : decode cX11_isOnEdge 66 = .ok (.getfield 22, 3) := by decide +kernel
theorem dX11_isOnEdge_69 : decode cX11_isOnEdge 69 = .ok (.iload 6, 2) := by decide +kernel
theorem dX11_isOnEdge_71 : decode cX11_isOnEdge 71 = .ok (.baload, 1) := by decide +kernel
theorem dX11_isOnEdge_72 : decode cX11_isOnEdge 72 = .ok (.ifCond .ne 59, 3) := by decide +kernel
theorem dX11_isOnEdge_75 : decode cX11_isOnEdge 75 = .ok (.aload_n 0, 1) := by decide +kernel
theorem dX11_isOnEdge_76 : decode cX11_isOnEdge 76 = .ok (.getfield 69, 3) := by decide +kernel
theorem dX11_isOnEdge_79 : decode cX11_isOnEdge 79 = .ok (.iload 6, 2) := by decide +kernel
theorem dX11_isOnEdge_81 : decode cX11_isOnEdge 81 = .ok (.iaload, 1) := by decide +kernel
theorem dX11_isOnEdge_82 : decode cX11_isOnEdge 82 = .ok (.ifCond .ne 49, 3) := by decide +kernel
theorem dX11_isOnEdge_85 : decode cX11_isOnEdge 85 = .ok (.iload 4, 2) := by decide +kernel
theorem dX11_isOnEdge_87 : decode cX11_isOnEdge 87 = .ok (.ifCond .ne 14, 3) := by decide +kernel
theorem dX11_isOnEdge_90 : decode cX11_isOnEdge 90 = .ok (.aload_n 0, 1) := by decide +kernel
theorem dX11_isOnEdge_91 : decode cX11_isOnEdge 91 = .ok (.iload 6, 2) := by decide +kernel
theorem dX11_isOnEdge_93 : decode cX11_isOnEdge 93 = .ok (.invokevirtual 210, 3) := by decide +kernel
theorem dX11_isOnEdge_96 : decode cX11_isOnEdge 96 = .ok (.lconst 0, 1) := by decide +kernel
theorem dX11_isOnEdge_97 : decode cX11_isOnEdge 97 = .ok (.lcmp, 1) := by decide +kernel
theorem dX11_isOnEdge_98 : decode cX11_isOnEdge 98 = .ok (.ifCond .le 7, 3) := by decide +kernel
theorem dX11_isOnEdge_101 : decode cX11_isOnEdge 101 = .ok (.iconst 1, 1) := by decide +kernel
theorem dX11_isOnEdge_102 : decode cX11_isOnEdge 102 = .ok (.goto 4, 3) := by decide +kernel
theorem dX11_isOnEdge_105 : decode cX11_isOnEdge 105 = .ok (.iconst 0, 1) := by decide +kernel
theorem dX11_isOnEdge_106 : decode cX11_isOnEdge 106 = .ok (.istore 4, 2) := by decide +kernel
theorem dX11_isOnEdge_108 : decode cX11_isOnEdge 108 = .ok (.iload 5, 2) := by decide +kernel
theorem dX11_isOnEdge_110 : decode cX11_isOnEdge 110 = .ok (.ifCond .ne 14, 3) := by decide +kernel
theorem dX11_isOnEdge_113 : decode cX11_isOnEdge 113 = .ok (.aload_n 0, 1) := by decide +kernel
theorem dX11_isOnEdge_114 : decode cX11_isOnEdge 114 = .ok (.iload 6, 2) := by decide +kernel
theorem dX11_isOnEdge_116 : decode cX11_isOnEdge 116 = .ok (.invokevirtual 210, 3) := by decide +kernel
theorem dX11_isOnEdge_119 : decode cX11_isOnEdge 119 = .ok (.lconst 0, 1) := by decide +kernel
theorem dX11_isOnEdge_120 : decode cX11_isOnEdge 120 = .ok (.lcmp, 1) := by decide +kernel
theorem dX11_isOnEdge_121 : decode cX11_isOnEdge 121 = .ok (.ifCond .ge 7, 3) := by decide +kernel
theorem dX11_isOnEdge_124 : decode cX11_isOnEdge 124 = .ok (.iconst 1, 1) := by decide +kernel
theorem dX11_isOnEdge_125 : decode cX11_isOnEdge 125 = .ok (.goto 4, 3) := by decide +kernel
theorem dX11_isOnEdge_128 : decode cX11_isOnEdge 128 = .ok (.iconst 0, 1) := by decide +kernel
theorem dX11_isOnEdge_129 : decode cX11_isOnEdge 129 = .ok (.istore 5, 2) := by decide +kernel
theorem dX11_isOnEdge_131 : decode cX11_isOnEdge 131 = .ok (.iinc 6 1, 3) := by decide +kernel
theorem dX11_isOnEdge_134 : decode cX11_isOnEdge 134 = .ok (.goto (-78), 3) := by decide +kernel
theorem dX11_isOnEdge_137 : decode cX11_isOnEdge 137 = .ok (.iload 4, 2) := by decide +kernel
theorem dX11_isOnEdge_139 : decode cX11_isOnEdge 139 = .ok (.ifCond .eq 8, 3) := by decide +kernel
theorem dX11_isOnEdge_142 : decode cX11_isOnEdge 142 = .ok (.iload 5, 2) := by decide +kernel
theorem dX11_isOnEdge_144 : decode cX11_isOnEdge 144 = .ok (.ifCond .ne 5, 3) := by decide +kernel
theorem dX11_isOnEdge_147 : decode cX11_isOnEdge 147 = .ok (.iconst 1, 1) := by decide +kernel
theorem dX11_isOnEdge_148 : decode cX11_isOnEdge 148 = .ok (.ireturn, 1) := by decide +kernel
theorem dX11_isOnEdge_149 : decode cX11_isOnEdge 149 = .ok (.iinc 3 1, 3) := by decide +kernel
theorem dX11_isOnEdge_152 : decode cX11_isOnEdge 152 = .ok (.goto (-148), 3) := by decide +kernel
theorem dX11_isOnEdge_155 : decode cX11_isOnEdge 155 = .ok (.iload_n 2, 1) := by decide +kernel
theorem dX11_isOnEdge_156 : decode cX11_isOnEdge 156 = .ok (.ireturn, 1) := by decide +kernel
theorem dX11_findLayers_0 : decode cX11_findLayers 0 = .ok (.aload_n 0, 1) := by decide +kernel
theorem dX11_findLayers_1 : decode cX11_findLayers 1 = .ok (.invokevirtual 134, 3) := by decide +kernel
theorem dX11_findLayers_4 : decode cX11_findLayers 4 = .ok (.istore_n 1, 1) := by decide +kernel
theorem dX11_findLayers_5 : decode cX11_findLayers 5 = .ok (.iconst 0, 1) := by decide +kernel
theorem dX11_findLayers_6 : decode cX11_findLayers 6 = .ok (.istore_n 2, 1) := by decide +kernel
theorem dX11_findLayers_7 : decode cX11_findLayers 7 = .ok (.iload_n 2, 1) := by decide +kernel
theorem dX11_findLayers_8 : decode cX11_findLayers 8 = .ok (.aload_n 0, 1) := by decide +kernel
theorem dX11_findLayers_9 : decode cX11_findLayers 9 = .ok (.getfield 101, 3) := by decide +kernel
theorem dX11_findLayers_12 : decode cX11_findLayers 12 = .ok (.if_icmp .ge 16, 3) := by decide +kernel
theorem dX11_findLayers_15 : decode cX11_findLayers 15 = .ok (.aload_n 0, 1) := by decide +kernel
theorem dX11_findLayers_16 : decode cX11_findLayers 16 = .ok (.getfield 69, 3) := by decide +kernel
theorem dX11_findLayers_19 : decode cX11_findLayers 19 = .ok (.iload_n 2, 1) := by decide +kernel
theorem dX11_findLayers_20 : decode cX11_findLayers 20 = .ok (.iconst 0, 1) := by decide +kernel
theorem dX11_findLayers_21 : decode cX11_findLayers 21 = .ok (.iastore, 1) := by decide +kernel
theorem dX11_findLayers_22 : decode cX11_findLayers 22 = .ok (.iinc 2 1, 3) := by decide +kernel
theorem dX11_findLayers_25 : decode cX11_findLayers 25 = .ok (.goto (-18), 3) := by decide +kernel
theorem dX11_findLayers_28 : decode cX11_findLayers 28 = .ok (.iconst 0, 1) := by decide +kernel
theorem dX11_findLayers_29 : decode cX11_findLayers 29 = .ok (.istore_n 2, 1) := by decide +kernel
theorem dX11_findLayers_30 : decode cX11_findLayers 30 = .ok (.iload_n 1, 1) := by decide +kernel
theorem dX11_findLayers_31 : decode cX11_findLayers 31 = .ok (.ifCond .le 120, 3) := by decide +kernel
theorem dX11_findLayers_34 : decode cX11_findLayers 34 = .ok (.iinc 2 1, 3) := by decide +kernel
theorem dX11_findLayers_37 : decode cX11_findLayers 37 = .ok (.iconst 0, 1) := by decide +kernel
theorem dX11_findLayers_38 : decode cX11_findLayers 38 = .ok (.istore_n 3, 1) := by decide +kernel
theorem dX11_findLayers_39 : decode cX11_findLayers 39 = .ok (.iload_n 3, 1) := by decide +kernel
theorem dX11_findLayers_40 : decode cX11_findLayers 40 = .ok (.aload_n 0, 1) := by decide +kernel
theorem dX11_findLayers_41 : decode cX11_findLayers 41 = .ok (.getfield 101, 3) := by decide +kernel
theorem dX11_findLayers_44 : decode cX11_findLayers 44 = .ok (.if_icmp .ge 46, 3) := by decide +kernel
theorem dX11_findLayers_47 : decode cX11_findLayers 47 = .ok (.aload_n 0, 1) := by decide +kernel
theorem dX11_findLayers_48 : decode cX11_findLayers 48 = .ok (.getfield 72, 3) := by decide +kernel
theorem dX11_findLayers_51 : decode cX11_findLayers 51 = .ok (.iload_n 3, 1) := by decide +kernel
theorem dX11_findLayers_52 : decode cX11_findLayers 52 = .ok (.aload_n 0, 1) := by decide +kernel
theorem dX11_findLayers_53 : decode cX11_findLayers 53 = .ok (.getfield 22, 3) := by decide +kernel
theorem dX11_findLayers_56 : decode cX11_findLayers 56 = .ok (.iload_n 3, 1) := by decide +kernel
theorem dX11_findLayers_57 : decode cX11_findLayers 57 = .ok (.baload, 1) := by decide +kernel
theorem dX11_findLayers_58 : decode cX11_findLayers 58 = .ok (.ifCond .ne 24, 3) := by decide +kernel
theorem dX11_findLayers_61 : decode cX11_findLayers 61 = .ok (.aload_n 0, 1) := by decide +kernel
theorem dX11_findLayers_62 : decode cX11_findLayers 62 = .ok (.getfield 69, 3) := by decide +kernel
theorem dX11_findLayers_65 : decode cX11_findLayers 65 = .ok (.iload_n 3, 1) := by decide +kernel
theorem dX11_findLayers_66 : decode cX11_findLayers 66 = .ok (.iaload, 1) := by decide +kernel
theorem dX11_findLayers_67 : decode cX11_findLayers 67 = .ok (.ifCond .ne 15, 3) := by decide +kernel
theorem dX11_findLayers_70 : decode cX11_findLayers 70 = .ok (.aload_n 0, 1) := by decide +kernel
theorem dX11_findLayers_71 : decode cX11_findLayers 71 = .ok (.iload_n 3, 1) := by decide +kernel
theorem dX11_findLayers_72 : decode cX11_findLayers 72 = .ok (.invokevirtual 264, 3) := by decide +kernel
theorem dX11_findLayers_75 : decode cX11_findLayers 75 = .ok (.ifCond .eq 7, 3) := by decide +kernel
theorem dX11_findLayers_78 : decode cX11_findLayers 78 = .ok (.iconst 1, 1) := by decide +kernel
theorem dX11_findLayers_79 : decode cX11_findLayers 79 = .ok (.goto 4, 3) := by decide +kernel
theorem dX11_findLayers_82 : decode cX11_findLayers 82 = .ok (.iconst 0, 1) := by decide +kernel
theorem dX11_findLayers_83 : decode cX11_findLayers 83 = .ok (.bastore, 1) := by decide +kernel
theorem dX11_findLayers_84 : decode cX11_findLayers 84 = .ok (.iinc 3 1, 3) := by decide +kernel
theorem dX11_findLayers_87 : decode cX11_findLayers 87 = .ok (.goto (-48), 3) := by decide +kernel
theorem dX11_findLayers_90 : decode cX11_findLayers 90 = .ok (.iconst 0, 1) := by decide +kernel
theorem dX11_findLayers_91 : decode cX11_findLayers 91 = .ok (.istore_n 3, 1) := by decide +kernel
theorem dX11_findLayers_92 : decode cX11_findLayers 92 = .ok (.iload_n 3, 1) := by decide +kernel
theorem dX11_findLayers_93 : decode cX11_findLayers 93 = .ok (.aload_n 0, 1) := by decide +kernel
theorem dX11_findLayers_94 : decode cX11_findLayers 94 = .ok (.getfield 101, 3) := by decide +kernel
theorem dX11_findLayers_97 : decode cX11_findLayers 97 = .ok (.if_icmp .ge 51, 3) := by decide +kernel
theorem dX11_findLayers_100 : decode cX11_findLayers 100 = .ok (.aload_n 0, 1) := by decide +kernel
theorem dX11_findLayers_101 : decode cX11_findLayers 101 = .ok (.getfield 69, 3) := by decide +kernel
theorem dX11_findLayers_104 : decode cX11_findLayers 104 = .ok (.iload_n 3, 1) := by decide +kernel
theorem dX11_findLayers_105 : decode cX11_findLayers 105 = .ok (.aload_n 0, 1) := by decide +kernel
theorem dX11_findLayers_106 : decode cX11_findLayers 106 = .ok (.getfield 72, 3) := by decide +kernel
theorem dX11_findLayers_109 : decode cX11_findLayers 109 = .ok (.iload_n 3, 1) := by decide +kernel
theorem dX11_findLayers_110 : decode cX11_findLayers 110 = .ok (.baload, 1) := by decide +kernel
theorem dX11_findLayers_111 : decode cX11_findLayers 111 = .ok (.ifCond .eq 7, 3) := by decide +kernel
theorem dX11_findLayers_114 : decode cX11_findLayers 114 = .ok (.iload_n 2, 1) := by decide +kernel
theorem dX11_findLayers_115 : decode cX11_findLayers 115 = .ok (.goto 9, 3) := by decide +kernel
theorem dX11_findLayers_118 : decode cX11_findLayers 118 = .ok (.aload_n 0, 1) := by decide +kernel
theorem dX11_findLayers_119 : decode cX11_findLayers 119 = .ok (.getfield 69, 3) := by decide +kernel
theorem dX11_findLayers_122 : decode cX11_findLayers 122 = .ok (.iload_n 3, 1) := by decide +kernel
theorem dX11_findLayers_123 : decode cX11_findLayers 123 = .ok (.iaload, 1) := by decide +kernel
theorem dX11_findLayers_124 : decode cX11_findLayers 124 = .ok (.iastore, 1) := by decide +kernel
theorem dX11_findLayers_125 : decode cX11_findLayers 125 = .ok (.iload_n 1, 1) := by decide +kernel
theorem dX11_findLayers_126 : decode cX11_findLayers 126 = .ok (.aload_n 0, 1) := by decide +kernel
theorem dX11_findLayers_127 : decode cX11_findLayers 127 = .ok (.getfield 72, 3) := by decide +kernel
theorem dX11_findLayers_130 : decode cX11_findLayers 130 = .ok (.iload_n 3, 1) := by decide +kernel
theorem dX11_findLayers_131 : decode cX11_findLayers 131 = .ok (.baload, 1) := by decide +kernel
theorem dX11_findLayers_132 : decode cX11_findLayers 132 = .ok (.ifCond .eq 7, 3) := by decide +kernel
theorem dX11_findLayers_135 : decode cX11_findLayers 135 = .ok (.iconst 1, 1) := by decide +kernel
theorem dX11_findLayers_136 : decode cX11_findLayers 136 = .ok (.goto 4, 3) := by decide +kernel
theorem dX11_findLayers_139 : decode cX11_findLayers 139 = .ok (.iconst 0, 1) := by decide +kernel
theorem dX11_findLayers_140 : decode cX11_findLayers 140 = .ok (.isub, 1) := by decide +kernel
theorem dX11_findLayers_141 : decode cX11_findLayers 141 = .ok (.istore_n 1, 1) := by decide +kernel
theorem dX11_findLayers_142 : decode cX11_findLayers 142 = .ok (.iinc 3 1, 3) := by decide +kernel
theorem dX11_findLayers_145 : decode cX11_findLayers 145 = .ok (.goto (-53), 3) := by decide +kernel
theorem dX11_findLayers_148 : decode cX11_findLayers 148 = .ok (.goto (-118), 3) := by decide +kernel
theorem dX11_findLayers_151 : decode cX11_findLayers 151 = .ok (.iload_n 2, 1) := by decide +kernel
theorem dX11_findLayers_152 : decode cX11_findLayers 152 = .ok (.ireturn, 1) := by decide +kernel
theorem dX11_layer_0 : decode cX11_layer 0 = .ok (.iload_n 1, 1) := by decide +kernel
theorem dX11_layer_1 : decode cX11_layer 1 = .ok (.iconst 1, 1) := by decide +kernel
theorem dX11_layer_2 : decode cX11_layer 2 = .ok (.if_icmp .ge 6, 3) := by decide +kernel
theorem dX11_layer_5 : decode cX11_layer 5 = .ok (.ldc 91, 2) := by decide +kernel
theorem dX11_layer_7 : decode cX11_layer 7 = .ok (.ireturn, 1) := by decide +kernel
theorem dX11_layer_8 : decode cX11_layer 8 = .ok (.aload_n 0, 1) := by decide +kernel
theorem dX11_layer_9 : decode cX11_layer 9 = .ok (.invokevirtual 140, 3) := by decide +kernel
theorem dX11_layer_12 : decode cX11_layer 12 = .ok (.istore_n 2, 1) := by decide +kernel
theorem dX11_layer_13 : decode cX11_layer 13 = .ok (.iconst 0, 1) := by decide +kernel
theorem dX11_layer_14 : decode cX11_layer 14 = .ok (.istore_n 3, 1) := by decide +kernel
theorem dX11_layer_15 : decode cX11_layer 15 = .ok (.iconst 0, 1) := by decide +kernel
theorem dX11_layer_16 : decode cX11_layer 16 = .ok (.istore 4, 2) := by decide +kernel
theorem dX11_layer_18 : decode cX11_layer 18 = .ok (.iload 4, 2) := by decide +kernel
theorem dX11_layer_20 : decode cX11_layer 20 = .ok (.aload_n 0, 1) := by decide +kernel
theorem dX11_layer_21 : decode cX11_layer 21 = .ok (.getfield 101, 3) := by decide +kernel
theorem dX11_layer_24 : decode cX11_layer 24 = .ok (.if_icmp .ge 38, 3) := by decide +kernel
theorem dX11_layer_27 : decode cX11_layer 27 = .ok (.iload_n 3, 1) := by decide +kernel
theorem dX11_layer_28 : decode cX11_layer 28 = .ok (.aload_n 0, 1) := by decide +kernel
theorem dX11_layer_29 : decode cX11_layer 29 = .ok (.getfield 22, 3) := by decide +kernel
theorem dX11_layer_32 : decode cX11_layer 32 = .ok (.iload 4, 2) := by decide +kernel
theorem dX11_layer_34 : decode cX11_layer 34 = .ok (.baload, 1) := by decide +kernel
theorem dX11_layer_35 : decode cX11_layer 35 = .ok (.ifCond .ne 18, 3) := by decide +kernel
theorem dX11_layer_38 : decode cX11_layer 38 = .ok (.aload_n 0, 1) := by decide +kernel
theorem dX11_layer_39 : decode cX11_layer 39 = .ok (.getfield 69, 3) := by decide +kernel
theorem dX11_layer_42 : decode cX11_layer 42 = .ok (.iload 4, 2) := by decide +kernel
theorem dX11_layer_44 : decode cX11_layer 44 = .ok (.iaload, 1) := by decide +kernel
theorem dX11_layer_45 : decode cX11_layer 45 = .ok (.iload_n 1, 1) := by decide +kernel
theorem dX11_layer_46 : decode cX11_layer 46 = .ok (.if_icmp .ne 7, 3) := by decide +kernel
theorem dX11_layer_49 : decode cX11_layer 49 = .ok (.iconst 1, 1) := by decide +kernel
theorem dX11_layer_50 : decode cX11_layer 50 = .ok (.goto 4, 3) := by decide +kernel
theorem dX11_layer_53 : decode cX11_layer 53 = .ok (.iconst 0, 1) := by decide +kernel
theorem dX11_layer_54 : decode cX11_layer 54 = .ok (.iadd, 1) := by decide +kernel
theorem dX11_layer_55 : decode cX11_layer 55 = .ok (.istore_n 3, 1) := by decide +kernel
theorem dX11_layer_56 : decode cX11_layer 56 = .ok (.iinc 4 1, 3) := by decide +kernel
theorem dX11_layer_59 : decode cX11_layer 59 = .ok (.goto (-41), 3) := by decide +kernel
theorem dX11_layer_62 : decode cX11_layer 62 = .ok (.iload_n 3, 1) := by decide +kernel
theorem dX11_layer_63 : decode cX11_layer 63 = .ok (.ireturn, 1) := by decide +kernel
theorem dX11_most_0 : decode cX11_most 0 = .ok (.iload_n 1, 1) := by decide +kernel
theorem dX11_most_1 : decode cX11_most 1 = .ok (.i2l, 1) := by decide +kernel
theorem dX11_most_2 : decode cX11_most 2 = .ok (.lconst 0, 1) := by decide +kernel
theorem dX11_most_3 : decode cX11_most 3 = .ok (.lconst 1, 1) := by decide +kernel
theorem dX11_most_4 : decode cX11_most 4 = .ok (.invokestatic 81, 3) := by decide +kernel
theorem dX11_most_7 : decode cX11_most 7 = .ok (.ifCond .ne 6, 3) := by decide +kernel
theorem dX11_most_10 : decode cX11_most 10 = .ok (.ldc 91, 2) := by decide +kernel
theorem dX11_most_12 : decode cX11_most 12 = .ok (.ireturn, 1) := by decide +kernel
theorem dX11_most_13 : decode cX11_most 13 = .ok (.iconst 0, 1) := by decide +kernel
theorem dX11_most_14 : decode cX11_most 14 = .ok (.istore_n 2, 1) := by decide +kernel
theorem dX11_most_15 : decode cX11_most 15 = .ok (.iconst 0, 1) := by decide +kernel
theorem dX11_most_16 : decode cX11_most 16 = .ok (.istore_n 3, 1) := by decide +kernel
theorem dX11_most_17 : decode cX11_most 17 = .ok (.iload_n 3, 1) := by decide +kernel
theorem dX11_most_18 : decode cX11_most 18 = .ok (.aload_n 0, 1) := by decide +kernel
theorem dX11_most_19 : decode cX11_most 19 = .ok (.getfield 101, 3) := by decide +kernel
theorem dX11_most_22 : decode cX11_most 22 = .ok (.if_icmp .ge 143, 3) := by decide +kernel
theorem dX11_most_25 : decode cX11_most 25 = .ok (.iconst 0, 1) := by decide +kernel
theorem dX11_most_26 : decode cX11_most 26 = .ok (.istore 4, 2) := by decide +kernel
theorem dX11_most_28 : decode cX11_most 28 = .ok (.iload 4, 2) := by decide +kernel
theorem dX11_most_30 : decode cX11_most 30 = .ok (.iload_n 3, 1) := by decide +kernel
theorem dX11_most_31 : decode cX11_most 31 = .ok (.if_icmp .ge 128, 3) := by decide +kernel
theorem dX11_most_34 : decode cX11_most 34 = .ok (.aload_n 0, 1) := by decide +kernel
theorem dX11_most_35 : decode cX11_most 35 = .ok (.getfield 22, 3) := by decide +kernel
theorem dX11_most_38 : decode cX11_most 38 = .ok (.iload_n 3, 1) := by decide +kernel
theorem dX11_most_39 : decode cX11_most 39 = .ok (.baload, 1) := by decide +kernel
theorem dX11_most_40 : decode cX11_most 40 = .ok (.ifCond .ne 119, 3) := by decide +kernel
theorem dX11_most_43 : decode cX11_most 43 = .ok (.aload_n 0, 1) := by decide +kernel
theorem dX11_most_44 : decode cX11_most 44 = .ok (.getfield 22, 3) := by decide +kernel
theorem dX11_most_47 : decode cX11_most 47 = .ok (.iload 4, 2) := by decide +kernel
theorem dX11_most_49 : decode cX11_most 49 = .ok (.baload, 1) := by decide +kernel
theorem dX11_most_50 : decode cX11_most 50 = .ok (.ifCond .ne 103, 3) := by decide +kernel
theorem dX11_most_53 : decode cX11_most 53 = .ok (.aload_n 0, 1) := by decide +kernel
theorem dX11_most_54 : decode cX11_most 54 = .ok (.iload_n 3, 1) := by decide +kernel
theorem dX11_most_55 : decode cX11_most 55 = .ok (.iload 4, 2) := by decide +kernel
theorem dX11_most_57 : decode cX11_most 57 = .ok (.invokevirtual 200, 3) := by decide +kernel
theorem dX11_most_60 : decode cX11_most 60 = .ok (.ifCond .eq 93, 3) := by decide +kernel
theorem dX11_most_63 : decode cX11_most 63 = .ok (.aload_n 0, 1) := by decide +kernel
theorem dX11_most_64 : decode cX11_most 64 = .ok (.iload_n 3, 1) := by decide +kernel
theorem dX11_most_65 : decode cX11_most 65 = .ok (.iload 4, 2) := by decide +kernel
theorem dX11_most_67 : decode cX11_most 67 = .ok (.invokevirtual 203, 3) := by decide +kernel
theorem dX11_most_70 : decode cX11_most 70 = .ok (.iconst 0, 1) := by decide +kernel
theorem dX11_most_71 : decode cX11_most 71 = .ok (.istore 5, 2) := by decide +kernel
theorem dX11_most_73 : decode cX11_most 73 = .ok (.iconst 0, 1) := by decide +kernel
theorem dX11_most_74 : decode cX11_most 74 = .ok (.istore 6, 2) := by decide +kernel
theorem dX11_most_76 : decode cX11_most 76 = .ok (.iload 6, 2) := by decide +kernel
theorem dX11_most_78 : decode cX11_most 78 = .ok (.aload_n 0, 1) := by decide +kernel
theorem dX11_most_79 : decode cX11_most 79 = .ok (.getfield 101, 3) := by decide +kernel
theorem dX11_most_82 : decode cX11_most 82 = .ok (.if_icmp .ge 40, 3) := by decide +kernel
theorem dX11_most_85 : decode cX11_most 85 = .ok (.iload 5, 2) := by decide +kernel
theorem dX11_most_87 : decode cX11_most 87 = .ok (.aload_n 0, 1) := by decide +kernel
theorem dX11_most_88 : decode cX11_most 88 = .ok (.getfield 22, 3) := by decide +kernel
theorem dX11_most_91 : decode cX11_most 91 = .ok (.iload 6, 2) := by decide +kernel
theorem dX11_most_93 : decode cX11_most 93 = .ok (.baload, 1) := by decide +kernel
theorem dX11_most_94 : decode cX11_most 94 = .ok (.ifCond .ne 18, 3) := by decide +kernel
theorem dX11_most_97 : decode cX11_most 97 = .ok (.aload_n 0, 1) := by decide +kernel
theorem dX11_most_98 : decode cX11_most 98 = .ok (.iload 6, 2) := by decide +kernel
theorem dX11_most_100 : decode cX11_most 100 = .ok (.invokevirtual 210, 3) := by decide +kernel
theorem dX11_most_103 : decode cX11_most 103 = .ok (.lconst 0, 1) := by decide +kernel
theorem dX11_most_104 : decode cX11_most 104 = .ok (.lcmp, 1) := by decide +kernel
theorem dX11_most_105 : decode cX11_most 105 = .ok (.ifCond .ne 7, 3) := by decide +kernel
theorem dX11_most_108 : decode cX11_most 108 = .ok (.iconst 1, 1) := by decide +kernel
theorem dX11_most_109 : decode cX11_most 109 = .ok (.goto 4, 3) := by decide +kernel
theorem dX11_most_112 : decode cX11_most 112 = .ok (.iconst 0, 1) := by decide +kernel
theorem dX11_most_113 : decode cX11_most 113 = .ok (.iadd, 1) := by decide +kernel
theorem dX11_most_114 : decode cX11_most 114 = .ok (.istore 5, 2) := by decide +kernel
theorem dX11_most_116 : decode cX11_most 116 = .ok (.iinc 6 1, 3) := by decide +kernel
theorem dX11_most_119 : decode cX11_most 119 = .ok (.goto (-43), 3) := by decide +kernel
theorem dX11_most_122 : decode cX11_most 122 = .ok (.iload_n 2, 1) := by decide +kernel
theorem dX11_most_123 : decode cX11_most 123 = .ok (.ifCond .eq 23, 3) := by decide +kernel
theorem dX11_most_126 : decode cX11_most 126 = .ok (.iload_n 1, 1) := by decide +kernel
theorem dX11_most_127 : decode cX11_most 127 = .ok (.iconst 1, 1) := by decide +kernel
theorem dX11_most_128 : decode cX11_most 128 = .ok (.if_icmp .ne 12, 3) := by decide +kernel
theorem dX11_most_131 : decode cX11_most 131 = .ok (.iload 5, 2) := by decide +kernel
theorem dX11_most_133 : decode cX11_most 133 = .ok (.iload_n 2, 1) := by decide +kernel
theorem dX11_most_134 : decode cX11_most 134 = .ok (.if_icmp .le 17, 3) := by decide +kernel
theorem dX11_most_137 : decode cX11_most 137 = .ok (.goto 9, 3) := by decide +kernel
theorem dX11_most_140 : decode cX11_most 140 = .ok (.iload 5, 2) := by decide +kernel
theorem dX11_most_142 : decode cX11_most 142 = .ok (.iload_n 2, 1) := by decide +kernel
theorem dX11_most_143 : decode cX11_most 143 = .ok (.if_icmp .ge 8, 3) := by decide +kernel
theorem dX11_most_146 : decode cX11_most 146 = .ok (.iload 5, 2) := by decide +kernel
theorem dX11_most_148 : decode cX11_most 148 = .ok (.goto 4, 3) := by decide +kernel
theorem dX11_most_151 : decode cX11_most 151 = .ok (.iload_n 2, 1) := by decide +kernel
theorem dX11_most_152 : decode cX11_most 152 = .ok (.istore_n 2, 1) := by decide +kernel
theorem dX11_most_153 : decode cX11_most 153 = .ok (.iinc 4 1, 3) := by decide +kernel
theorem dX11_most_156 : decode cX11_most 156 = .ok (.goto (-128), 3) := by decide +kernel
theorem dX11_most_159 : decode cX11_most 159 = .ok (.iinc 3 1, 3) := by decide +kernel
theorem dX11_most_162 : decode cX11_most 162 = .ok (.goto (-145), 3) := by decide +kernel
theorem dX11_most_165 : decode cX11_most 165 = .ok (.iload_n 2, 1) := by decide +kernel
theorem dX11_most_166 : decode cX11_most 166 = .ok (.ireturn, 1) := by decide +kernel
theorem dX11_offerGap_0 : decode cX11_offerGap 0 = .ok (.iconst 0, 1) := by decide +kernel
theorem dX11_offerGap_1 : decode cX11_offerGap 1 = .ok (.istore 5, 2) := by decide +kernel
theorem dX11_offerGap_3 : decode cX11_offerGap 3 = .ok (.iload 5, 2) := by decide +kernel
theorem dX11_offerGap_5 : decode cX11_offerGap 5 = .ok (.aload_n 0, 1) := by decide +kernel
theorem dX11_offerGap_6 : decode cX11_offerGap 6 = .ok (.getfield 101, 3) := by decide +kernel
theorem dX11_offerGap_9 : decode cX11_offerGap 9 = .ok (.if_icmp .ge 188, 3) := by decide +kernel
theorem dX11_offerGap_12 : decode cX11_offerGap 12 = .ok (.aload_n 0, 1) := by decide +kernel
theorem dX11_offerGap_13 : decode cX11_offerGap 13 = .ok (.getfield 22, 3) := by decide +kernel
theorem dX11_offerGap_16 : decode cX11_offerGap 16 = .ok (.iload 5, 2) := by decide +kernel
theorem dX11_offerGap_18 : decode cX11_offerGap 18 = .ok (.baload, 1) := by decide +kernel
theorem dX11_offerGap_19 : decode cX11_offerGap 19 = .ok (.ifCond .ne 172, 3) := by decide +kernel
theorem dX11_offerGap_22 : decode cX11_offerGap 22 = .ok (.lload_n 1, 1) := by decide +kernel
theorem dX11_offerGap_23 : decode cX11_offerGap 23 = .ok (.aload_n 0, 1) := by decide +kernel
theorem dX11_offerGap_24 : decode cX11_offerGap 24 = .ok (.getfield 7, 3) := by decide +kernel
theorem dX11_offerGap_27 : decode cX11_offerGap 27 = .ok (.iload 5, 2) := by decide +kernel
theorem dX11_offerGap_29 : decode cX11_offerGap 29 = .ok (.iaload, 1) := by decide +kernel
theorem dX11_offerGap_30 : decode cX11_offerGap 30 = .ok (.i2l, 1) := by decide +kernel
theorem dX11_offerGap_31 : decode cX11_offerGap 31 = .ok (.lmul, 1) := by decide +kernel
theorem dX11_offerGap_32 : decode cX11_offerGap 32 = .ok (.lload_n 3, 1) := by decide +kernel
theorem dX11_offerGap_33 : decode cX11_offerGap 33 = .ok (.aload_n 0, 1) := by decide +kernel
theorem dX11_offerGap_34 : decode cX11_offerGap 34 = .ok (.getfield 13, 3) := by decide +kernel
theorem dX11_offerGap_37 : decode cX11_offerGap 37 = .ok (.iload 5, 2) := by decide +kernel
theorem dX11_offerGap_39 : decode cX11_offerGap 39 = .ok (.iaload, 1) := by decide +kernel
theorem dX11_offerGap_40 : decode cX11_offerGap 40 = .ok (.i2l, 1) := by decide +kernel
theorem dX11_offerGap_41 : decode cX11_offerGap 41 = .ok (.lmul, 1) := by decide +kernel
theorem dX11_offerGap_42 : decode cX11_offerGap 42 = .ok (.ladd, 1) := by decide +kernel
theorem dX11_offerGap_43 : decode cX11_offerGap 43 = .ok (.lstore 6, 2) := by decide +kernel
theorem dX11_offerGap_45 : decode cX11_offerGap 45 = .ok (.iconst 0, 1) := by decide +kernel
theorem dX11_offerGap_46 : decode cX11_offerGap 46 = .ok (.istore 8, 2) := by decide +kernel
theorem dX11_offerGap_48 : decode cX11_offerGap 48 = .ok (.lconst 0, 1) := by decide +kernel
theorem dX11_offerGap_49 : decode cX11_offerGap 49 = .ok (.lstore 9, 2) := by decide +kernel
theorem dX11_offerGap_51 : decode cX11_offerGap 51 = .ok (.iconst 0, 1) := by decide +kernel
theorem dX11_offerGap_52 : decode cX11_offerGap 52 = .ok (.istore 11, 2) := by decide +kernel
theorem dX11_offerGap_54 : decode cX11_offerGap 54 = .ok (.iload 11, 2) := by decide +kernel
theorem dX11_offerGap_56 : decode cX11_offerGap 56 = .ok (.aload_n 0, 1) := by decide +kernel
theorem dX11_offerGap_57 : decode cX11_offerGap 57 = .ok (.getfield 101, 3) := by decide +kernel
theorem dX11_offerGap_60 : decode cX11_offerGap 60 = .ok (.if_icmp .ge 70, 3) := by decide +kernel
theorem dX11_offerGap_63 : decode cX11_offerGap 63 = .ok (.lload_n 1, 1) := by decide +kernel
theorem dX11_offerGap_64 : decode cX11_offerGap 64 = .ok (.aload_n 0, 1) := by decide +kernel
theorem dX11_offerGap_65 : decode cX11_offerGap 65 = .ok (.getfield 7, 3) := by decide +kernel
theorem dX11_offerGap_68 : decode cX11_offerGap 68 = .ok (.iload 11, 2) := by decide +kernel
theorem dX11_offerGap_70 : decode cX11_offerGap 70 = .ok (.iaload, 1) := by decide +kernel
theorem dX11_offerGap_71 : decode cX11_offerGap 71 = .ok (.i2l, 1) := by decide +kernel
theorem dX11_offerGap_72 : decode cX11_offerGap 72 = .ok (.lmul, 1) := by decide +kernel
theorem dX11_offerGap_73 : decode cX11_offerGap 73 = .ok (.lload_n 3, 1) := by decide +kernel
theorem dX11_offerGap_74 : decode cX11_offerGap 74 = .ok (.aload_n 0, 1) := by decide +kernel
theorem dX11_offerGap_75 : decode cX11_offerGap 75 = .ok (.getfield 13, 3) := by decide +kernel
theorem dX11_offerGap_78 : decode cX11_offerGap 78 = .ok (.iload 11, 2) := by decide +kernel
theorem dX11_offerGap_80 : decode cX11_offerGap 80 = .ok (.iaload, 1) := by decide +kernel
theorem dX11_offerGap_81 : decode cX11_offerGap 81 = .ok (.i2l, 1) := by decide +kernel
theorem dX11_offerGap_82 : decode cX11_offerGap 82 = .ok (.lmul, 1) := by decide +kernel
theorem dX11_offerGap_83 : decode cX11_offerGap 83 = .ok (.ladd, 1) := by decide +kernel
theorem dX11_offerGap_84 : decode cX11_offerGap 84 = .ok (.lstore 12, 2) := by decide +kernel
theorem dX11_offerGap_86 : decode cX11_offerGap 86 = .ok (.aload_n 0, 1) := by decide +kernel
theorem dX11_offerGap_87 : decode cX11_offerGap 87 = .ok (.getfield 22, 3) := by decide +kernel
theorem dX11_offerGap_90 : decode cX11_offerGap 90 = .ok (.iload 11, 2) := by decide +kernel
theorem dX11_offerGap_92 : decode cX11_offerGap 92 = .ok (.baload, 1) := by decide +kernel
theorem dX11_offerGap_93 : decode cX11_offerGap 93 = .ok (.ifCond .ne 31, 3) := by decide +kernel
theorem dX11_offerGap_96 : decode cX11_offerGap 96 = .ok (.lload 12, 2) := by decide +kernel
theorem dX11_offerGap_98 : decode cX11_offerGap 98 = .ok (.lload 6, 2) := by decide +kernel
theorem dX11_offerGap_100 : decode cX11_offerGap 100 = .ok (.lcmp, 1) := by decide +kernel
theorem dX11_offerGap_101 : decode cX11_offerGap 101 = .ok (.ifCond .le 23, 3) := by decide +kernel
theorem dX11_offerGap_104 : decode cX11_offerGap 104 = .ok (.iload 8, 2) := by decide +kernel
theorem dX11_offerGap_106 : decode cX11_offerGap 106 = .ok (.ifCond .eq 11, 3) := by decide +kernel
theorem dX11_offerGap_109 : decode cX11_offerGap 109 = .ok (.lload 12, 2) := by decide +kernel
theorem dX11_offerGap_111 : decode cX11_offerGap 111 = .ok (.lload 9, 2) := by decide +kernel
theorem dX11_offerGap_113 : decode cX11_offerGap 113 = .ok (.lcmp, 1) := by decide +kernel
theorem dX11_offerGap_114 : decode cX11_offerGap 114 = .ok (.ifCond .ge 10, 3) := by decide +kernel
theorem dX11_offerGap_117 : decode cX11_offerGap 117 = .ok (.iconst 1, 1) := by decide +kernel
theorem dX11_offerGap_118 : decode cX11_offerGap 118 = .ok (.istore 8, 2) := by decide +kernel
theorem dX11_offerGap_120 : decode cX11_offerGap 120 = .ok (.lload 12, 2) := by decide +kernel
theorem dX11_offerGap_122 : decode cX11_offerGap 122 = .ok (.lstore 9, 2) := by decide +kernel
theorem dX11_offerGap_124 : decode cX11_offerGap 124 = .ok (.iinc 11 1, 3) := by decide +kernel
theorem dX11_offerGap_127 : decode cX11_offerGap 127 = .ok (.goto (-73), 3) := by decide +kernel
theorem dX11_offerGap_130 : decode cX11_offerGap 130 = .ok (.iload 8, 2) := by decide +kernel
theorem dX11_offerGap_132 : decode cX11_offerGap 132 = .ok (.ifCond .eq 11, 3) := by decide +kernel
theorem dX11_offerGap_135 : decode cX11_offerGap 135 = .ok (.lload 9, 2) := by decide +kernel
theorem dX11_offerGap_137 : decode cX11_offerGap 137 = .ok (.lload 6, 2) := by decide +kernel
theorem dX11_offerGap_139 : decode cX11_offerGap 139 = .ok (.lsub, 1) := by decide +kernel
theorem dX11_offerGap_140 : decode cX11_offerGap 140 = .ok (.goto 4, 3) := by decide +kernel
theorem dX11_offerGap_143 : decode cX11_offerGap 143 = .ok (.lconst 0, 1) := by decide +kernel
theorem dX11_offerGap_144 : decode cX11_offerGap 144 = .ok (.lstore 11, 2) := by decide +kernel
theorem dX11_offerGap_146 : decode cX11_offerGap 146 = .ok (.lload_n 1, 1) := by decide +kernel
theorem dX11_offerGap_147 : decode cX11_offerGap 147 = .ok (.lload_n 1, 1) := by decide +kernel
theorem dX11_offerGap_148 : decode cX11_offerGap 148 = .ok (.lmul, 1) := by decide +kernel
theorem dX11_offerGap_149 : decode cX11_offerGap 149 = .ok (.lload_n 3, 1) := by decide +kernel
theorem dX11_offerGap_150 : decode cX11_offerGap 150 = .ok (.lload_n 3, 1) := by decide +kernel
theorem dX11_offerGap_151 : decode cX11_offerGap 151 = .ok (.lmul, 1) := by decide +kernel
theorem dX11_offerGap_152 : decode cX11_offerGap 152 = .ok (.ladd, 1) := by decide +kernel
theorem dX11_offerGap_153 : decode cX11_offerGap 153 = .ok (.lstore 13, 2) := by decide +kernel
theorem dX11_offerGap_155 : decode cX11_offerGap 155 = .ok (.lload 11, 2) := by decide +kernel
theorem dX11_offerGap_157 : decode cX11_offerGap 157 = .ok (.lload 11, 2) := by decide +kernel
theorem dX11_offerGap_159 : decode cX11_offerGap 159 = .ok (.lmul, 1) := by decide +kernel
theorem dX11_offerGap_160 : decode cX11_offerGap 160 = .ok (.aload_n 0, 1) := by decide +kernel
theorem dX11_offerGap_161 : decode cX11_offerGap 161 = .ok (.getfield 267, 3) := by decide +kernel
theorem dX11_offerGap_164 : decode cX11_offerGap 164 = .ok (.lmul, 1) := by decide +kernel
theorem dX11_offerGap_165 : decode cX11_offerGap 165 = .ok (.aload_n 0, 1) := by decide +kernel
theorem dX11_offerGap_166 : decode cX11_offerGap 166 = .ok (.getfield 270, 3) := by decide +kernel
theorem dX11_offerGap_169 : decode cX11_offerGap 169 = .ok (.lload 13, 2) := by decide +kernel
theorem dX11_offerGap_171 : decode cX11_offerGap 171 = .ok (.lmul, 1) := by decide +kernel
theorem dX11_offerGap_172 : decode cX11_offerGap 172 = .ok (.lcmp, 1) := by decide +kernel
theorem dX11_offerGap_173 : decode cX11_offerGap 173 = .ok (.ifCond .le 18, 3) := by decide +kernel
theorem dX11_offerGap_176 : decode cX11_offerGap 176 = .ok (.aload_n 0, 1) := by decide +kernel
theorem dX11_offerGap_177 : decode cX11_offerGap 177 = .ok (.lload 11, 2) := by decide +kernel
theorem dX11_offerGap_179 : decode cX11_offerGap 179 = .ok (.lload 11, 2) := by decide +kernel
theorem dX11_offerGap_181 : decode cX11_offerGap 181 = .ok (.lmul, 1) := by decide +kernel
theorem dX11_offerGap_182 : decode cX11_offerGap 182 = .ok (.putfield 270, 3) := by decide +kernel
theorem dX11_offerGap_185 : decode cX11_offerGap 185 = .ok (.aload_n 0, 1) := by decide +kernel
theorem dX11_offerGap_186 : decode cX11_offerGap 186 = .ok (.lload 13, 2) := by decide +kernel
theorem dX11_offerGap_188 : decode cX11_offerGap 188 = .ok (.putfield 267, 3) := by decide +kernel
theorem dX11_offerGap_191 : decode cX11_offerGap 191 = .ok (.iinc 5 1, 3) := by decide +kernel
theorem dX11_offerGap_194 : decode cX11_offerGap 194 = .ok (.goto (-191), 3) := by decide +kernel
theorem dX11_offerGap_197 : decode cX11_offerGap 197 = .ok (.return_, 1) := by decide +kernel
theorem dX11_widest_0 : decode cX11_widest 0 = .ok (.iload_n 1, 1) := by decide +kernel
theorem dX11_widest_1 : decode cX11_widest 1 = .ok (.i2l, 1) := by decide +kernel
theorem dX11_widest_2 : decode cX11_widest 2 = .ok (.lconst 0, 1) := by decide +kernel
theorem dX11_widest_3 : decode cX11_widest 3 = .ok (.lconst 1, 1) := by decide +kernel
theorem dX11_widest_4 : decode cX11_widest 4 = .ok (.invokestatic 81, 3) := by decide +kernel
theorem dX11_widest_7 : decode cX11_widest 7 = .ok (.ifCond .ne 7, 3) := by decide +kernel
theorem dX11_widest_10 : decode cX11_widest 10 = .ok (.ldc2_w 99, 3) := by decide +kernel
theorem dX11_widest_13 : decode cX11_widest 13 = .ok (.lreturn, 1) := by decide +kernel
theorem dX11_widest_14 : decode cX11_widest 14 = .ok (.aload_n 0, 1) := by decide +kernel
theorem dX11_widest_15 : decode cX11_widest 15 = .ok (.lconst 0, 1) := by decide +kernel
theorem dX11_widest_16 : decode cX11_widest 16 = .ok (.putfield 270, 3) := by decide +kernel
theorem dX11_widest_19 : decode cX11_widest 19 = .ok (.aload_n 0, 1) := by decide +kernel
theorem dX11_widest_20 : decode cX11_widest 20 = .ok (.lconst 1, 1) := by decide +kernel
theorem dX11_widest_21 : decode cX11_widest 21 = .ok (.putfield 267, 3) := by decide +kernel
theorem dX11_widest_24 : decode cX11_widest 24 = .ok (.iconst 0, 1) := by decide +kernel
theorem dX11_widest_25 : decode cX11_widest 25 = .ok (.istore_n 2, 1) := by decide +kernel
theorem dX11_widest_26 : decode cX11_widest 26 = .ok (.iload_n 2, 1) := by decide +kernel
theorem dX11_widest_27 : decode cX11_widest 27 = .ok (.aload_n 0, 1) := by decide +kernel
theorem dX11_widest_28 : decode cX11_widest 28 = .ok (.getfield 101, 3) := by decide +kernel
theorem dX11_widest_31 : decode cX11_widest 31 = .ok (.if_icmp .ge 98, 3) := by decide +kernel
theorem dX11_widest_34 : decode cX11_widest 34 = .ok (.iconst 0, 1) := by decide +kernel
theorem dX11_widest_35 : decode cX11_widest 35 = .ok (.istore_n 3, 1) := by decide +kernel
theorem dX11_widest_36 : decode cX11_widest 36 = .ok (.iload_n 3, 1) := by decide +kernel
theorem dX11_widest_37 : decode cX11_widest 37 = .ok (.iload_n 2, 1) := by decide +kernel
theorem dX11_widest_38 : decode cX11_widest 38 = .ok (.if_icmp .ge 85, 3) := by decide +kernel
theorem dX11_widest_41 : decode cX11_widest 41 = .ok (.aload_n 0, 1) := by decide +kernel
theorem dX11_widest_42 : decode cX11_widest 42 = .ok (.getfield 22, 3) := by decide +kernel
theorem dX11_widest_45 : decode cX11_widest 45 = .ok (.iload_n 2, 1) := by decide +kernel
theorem dX11_widest_46 : decode cX11_widest 46 = .ok (.baload, 1) := by decide +kernel
theorem dX11_widest_47 : decode cX11_widest 47 = .ok (.ifCond .ne 76, 3) := by decide +kernel
theorem dX11_widest_50 : decode cX11_widest 50 = .ok (.aload_n 0, 1) := by decide +kernel
theorem dX11_widest_51 : decode cX11_widest 51 = .ok (.getfield 22, 3) := by decide +kernel
theorem dX11_widest_54 : decode cX11_widest 54 = .ok (.iload_n 3, 1) := by decide +kernel
theorem dX11_widest_55 : decode cX11_widest 55 = .ok (.baload, 1) := by decide +kernel
theorem dX11_widest_56 : decode cX11_widest 56 = .ok (.ifCond .ne 61, 3) := by decide +kernel
theorem dX11_widest_59 : decode cX11_widest 59 = .ok (.aload_n 0, 1) := by decide +kernel
theorem dX11_widest_60 : decode cX11_widest 60 = .ok (.iload_n 2, 1) := by decide +kernel
theorem dX11_widest_61 : decode cX11_widest 61 = .ok (.iload_n 3, 1) := by decide +kernel
theorem dX11_widest_62 : decode cX11_widest 62 = .ok (.invokevirtual 200, 3) := by decide +kernel
theorem dX11_widest_65 : decode cX11_widest 65 = .ok (.ifCond .eq 52, 3) := by decide +kernel
theorem dX11_widest_68 : decode cX11_widest 68 = .ok (.aload_n 0, 1) := by decide +kernel
theorem dX11_widest_69 : decode cX11_widest 69 = .ok (.getfield 7, 3) := by decide +kernel
theorem dX11_widest_72 : decode cX11_widest 72 = .ok (.iload_n 2, 1) := by decide +kernel
theorem dX11_widest_73 : decode cX11_widest 73 = .ok (.iaload, 1) := by decide +kernel
theorem dX11_widest_74 : decode cX11_widest 74 = .ok (.aload_n 0, 1) := by decide +kernel
theorem dX11_widest_75 : decode cX11_widest 75 = .ok (.getfield 7, 3) := by decide +kernel
theorem dX11_widest_78 : decode cX11_widest 78 = .ok (.iload_n 3, 1) := by decide +kernel
theorem dX11_widest_79 : decode cX11_widest 79 = .ok (.iaload, 1) := by decide +kernel
theorem dX11_widest_80 : decode cX11_widest 80 = .ok (.isub, 1) := by decide +kernel
theorem dX11_widest_81 : decode cX11_widest 81 = .ok (.i2l, 1) := by decide +kernel
theorem dX11_widest_82 : decode cX11_widest 82 = .ok (.lstore 4, 2) := by decide +kernel
theorem dX11_widest_84 : decode cX11_widest 84 = .ok (.aload_n 0, 1) := by decide +kernel
theorem dX11_widest_85 : decode cX11_widest 85 = .ok (.getfield 13, 3) := by decide +kernel
theorem dX11_widest_88 : decode cX11_widest 88 = .ok (.iload_n 2, 1) := by decide +kernel
theorem dX11_widest_89 : decode cX11_widest 89 = .ok (.iaload, 1) := by decide +kernel
theorem dX11_widest_90 : decode cX11_widest 90 = .ok (.aload_n 0, 1) := by decide +kernel
theorem dX11_widest_91 : decode cX11_widest 91 = .ok (.getfield 13, 3) := by decide +kernel
theorem dX11_widest_94 : decode cX11_widest 94 = .ok (.iload_n 3, 1) := by decide +kernel
theorem dX11_widest_95 : decode cX11_widest 95 = .ok (.iaload, 1) := by decide +kernel
theorem dX11_widest_96 : decode cX11_widest 96 = .ok (.isub, 1) := by decide +kernel
theorem dX11_widest_97 : decode cX11_widest 97 = .ok (.i2l, 1) := by decide +kernel
theorem dX11_widest_98 : decode cX11_widest 98 = .ok (.lstore 6, 2) := by decide +kernel
theorem dX11_widest_100 : decode cX11_widest 100 = .ok (.aload_n 0, 1) := by decide +kernel
theorem dX11_widest_101 : decode cX11_widest 101 = .ok (.lload 4, 2) := by decide +kernel
theorem dX11_widest_103 : decode cX11_widest 103 = .ok (.lload 6, 2) := by decide +kernel
theorem dX11_widest_105 : decode cX11_widest 105 = .ok (.invokevirtual 273, 3) := by decide +kernel
theorem dX11_widest_108 : decode cX11_widest 108 = .ok (.aload_n 0, 1) := by decide +kernel
theorem dX11_widest_109 : decode cX11_widest 109 = .ok (.lload 6, 2) := by decide +kernel
theorem dX11_widest_111 : decode cX11_widest 111 = .ok (.lload 4, 2) := by decide +kernel
theorem dX11_widest_113 : decode cX11_widest 113 = .ok (.lneg, 1) := by decide +kernel
theorem dX11_widest_114 : decode cX11_widest 114 = .ok (.invokevirtual 273, 3) := by decide +kernel
theorem dX11_widest_117 : decode cX11_widest 117 = .ok (.iinc 3 1, 3) := by decide +kernel
theorem dX11_widest_120 : decode cX11_widest 120 = .ok (.goto (-84), 3) := by decide +kernel
theorem dX11_widest_123 : decode cX11_widest 123 = .ok (.iinc 2 1, 3) := by decide +kernel
theorem dX11_widest_126 : decode cX11_widest 126 = .ok (.goto (-100), 3) := by decide +kernel
theorem dX11_widest_129 : decode cX11_widest 129 = .ok (.aload_n 0, 1) := by decide +kernel
theorem dX11_widest_130 : decode cX11_widest 130 = .ok (.getfield 270, 3) := by decide +kernel
theorem dX11_widest_133 : decode cX11_widest 133 = .ok (.lconst 0, 1) := by decide +kernel
theorem dX11_widest_134 : decode cX11_widest 134 = .ok (.lcmp, 1) := by decide +kernel
theorem dX11_widest_135 : decode cX11_widest 135 = .ok (.ifCond .ne 7, 3) := by decide +kernel
theorem dX11_widest_138 : decode cX11_widest 138 = .ok (.ldc2_w 256, 3) := by decide +kernel
theorem dX11_widest_141 : decode cX11_widest 141 = .ok (.lreturn, 1) := by decide +kernel
theorem dX11_widest_142 : decode cX11_widest 142 = .ok (.aload_n 0, 1) := by decide +kernel
theorem dX11_widest_143 : decode cX11_widest 143 = .ok (.getfield 270, 3) := by decide +kernel
theorem dX11_widest_146 : decode cX11_widest 146 = .ok (.aload_n 0, 1) := by decide +kernel
theorem dX11_widest_147 : decode cX11_widest 147 = .ok (.getfield 267, 3) := by decide +kernel
theorem dX11_widest_150 : decode cX11_widest 150 = .ok (.invokestatic 181, 3) := by decide +kernel
theorem dX11_widest_153 : decode cX11_widest 153 = .ok (.lstore_n 2, 1) := by decide +kernel
theorem dX11_widest_154 : decode cX11_widest 154 = .ok (.iload_n 1, 1) := by decide +kernel
theorem dX11_widest_155 : decode cX11_widest 155 = .ok (.ifCond .ne 12, 3) := by decide +kernel
theorem dX11_widest_158 : decode cX11_widest 158 = .ok (.aload_n 0, 1) := by decide +kernel
theorem dX11_widest_159 : decode cX11_widest 159 = .ok (.getfield 270, 3) := by decide +kernel
theorem dX11_widest_162 : decode cX11_widest 162 = .ok (.lload_n 2, 1) := by decide +kernel
theorem dX11_widest_163 : decode cX11_widest 163 = .ok (.ldiv, 1) := by decide +kernel
theorem dX11_widest_164 : decode cX11_widest 164 = .ok (.goto 9, 3) := by decide +kernel
theorem dX11_widest_167 : decode cX11_widest 167 = .ok (.aload_n 0, 1) := by decide +kernel
theorem dX11_widest_168 : decode cX11_widest 168 = .ok (.getfield 267, 3) := by decide +kernel
theorem dX11_widest_171 : decode cX11_widest 171 = .ok (.lload_n 2, 1) := by decide +kernel
theorem dX11_widest_172 : decode cX11_widest 172 = .ok (.ldiv, 1) := by decide +kernel
theorem dX11_widest_173 : decode cX11_widest 173 = .ok (.lreturn, 1) := by decide +kernel
theorem dX11_count_0 : decode cX11_count 0 = .ok (.iconst 0, 1) := by decide +kernel
theorem dX11_count_1 : decode cX11_count 1 = .ok (.istore_n 2, 1) := by decide +kernel
theorem dX11_count_2 : decode cX11_count 2 = .ok (.iload_n 1, 1) := by decide +kernel
theorem dX11_count_3 : decode cX11_count 3 = .ok (.tableswitch 131 0 6 #[41, 46, 51, 84, 89, 89, 89], 41) := by decide +kernel
theorem dX11_count_44 : decode cX11_count 44 = .ok (.aload_n 0, 1) := by decide +kernel
theorem dX11_count_45 : decode cX11_count 45 = .ok (.invokevirtual 134, 3) := by decide +kernel
theorem dX11_count_48 : decode cX11_count 48 = .ok (.ireturn, 1) := by decide +kernel
theorem dX11_count_49 : decode cX11_count 49 = .ok (.aload_n 0, 1) := by decide +kernel
theorem dX11_count_50 : decode cX11_count 50 = .ok (.getfield 101, 3) := by decide +kernel
theorem dX11_count_53 : decode cX11_count 53 = .ok (.ireturn, 1) := by decide +kernel
theorem dX11_count_54 : decode cX11_count 54 = .ok (.iconst 0, 1) := by decide +kernel
theorem dX11_count_55 : decode cX11_count 55 = .ok (.istore_n 3, 1) := by decide +kernel
theorem dX11_count_56 : decode cX11_count 56 = .ok (.iload_n 3, 1) := by decide +kernel
theorem dX11_count_57 : decode cX11_count 57 = .ok (.bipush 8, 2) := by decide +kernel
theorem dX11_count_59 : decode cX11_count 59 = .ok (.if_icmp .ge 26, 3) := by decide +kernel
theorem dX11_count_62 : decode cX11_count 62 = .ok (.iload_n 2, 1) := by decide +kernel
theorem dX11_count_63 : decode cX11_count 63 = .ok (.aload_n 0, 1) := by decide +kernel
theorem dX11_count_64 : decode cX11_count 64 = .ok (.getfield 31, 3) := by decide +kernel
theorem dX11_count_67 : decode cX11_count 67 = .ok (.iload_n 3, 1) := by decide +kernel
theorem dX11_count_68 : decode cX11_count 68 = .ok (.iaload, 1) := by decide +kernel
theorem dX11_count_69 : decode cX11_count 69 = .ok (.ifCond .le 7, 3) := by decide +kernel
theorem dX11_count_72 : decode cX11_count 72 = .ok (.iconst 1, 1) := by decide +kernel
theorem dX11_count_73 : decode cX11_count 73 = .ok (.goto 4, 3) := by decide +kernel
theorem dX11_count_76 : decode cX11_count 76 = .ok (.iconst 0, 1) := by decide +kernel
theorem dX11_count_77 : decode cX11_count 77 = .ok (.iadd, 1) := by decide +kernel
theorem dX11_count_78 : decode cX11_count 78 = .ok (.istore_n 2, 1) := by decide +kernel
theorem dX11_count_79 : decode cX11_count 79 = .ok (.iinc 3 1, 3) := by decide +kernel
theorem dX11_count_82 : decode cX11_count 82 = .ok (.goto (-26), 3) := by decide +kernel
theorem dX11_count_85 : decode cX11_count 85 = .ok (.iload_n 2, 1) := by decide +kernel
theorem dX11_count_86 : decode cX11_count 86 = .ok (.ireturn, 1) := by decide +kernel
theorem dX11_count_87 : decode cX11_count 87 = .ok (.aload_n 0, 1) := by decide +kernel
theorem dX11_count_88 : decode cX11_count 88 = .ok (.invokevirtual 140, 3) := by decide +kernel
theorem dX11_count_91 : decode cX11_count 91 = .ok (.ireturn, 1) := by decide +kernel
theorem dX11_count_92 : decode cX11_count 92 = .ok (.iconst 0, 1) := by decide +kernel
theorem dX11_count_93 : decode cX11_count 93 = .ok (.istore_n 3, 1) := by decide +kernel
theorem dX11_count_94 : decode cX11_count 94 = .ok (.iload_n 3, 1) := by decide +kernel
theorem dX11_count_95 : decode cX11_count 95 = .ok (.aload_n 0, 1) := by decide +kernel
theorem dX11_count_96 : decode cX11_count 96 = .ok (.getfield 101, 3) := by decide +kernel
theorem dX11_count_99 : decode cX11_count 99 = .ok (.if_icmp .ge 33, 3) := by decide +kernel
theorem dX11_count_102 : decode cX11_count 102 = .ok (.iload_n 2, 1) := by decide +kernel
theorem dX11_count_103 : decode cX11_count 103 = .ok (.aload_n 0, 1) := by decide +kernel
theorem dX11_count_104 : decode cX11_count 104 = .ok (.getfield 22, 3) := by decide +kernel
theorem dX11_count_107 : decode cX11_count 107 = .ok (.iload_n 3, 1) := by decide +kernel
theorem dX11_count_108 : decode cX11_count 108 = .ok (.baload, 1) := by decide +kernel
theorem dX11_count_109 : decode cX11_count 109 = .ok (.ifCond .eq 7, 3) := by decide +kernel
theorem dX11_count_112 : decode cX11_count 112 = .ok (.iconst 0, 1) := by decide +kernel
theorem dX11_count_113 : decode cX11_count 113 = .ok (.goto 11, 3) := by decide +kernel
theorem dX11_count_116 : decode cX11_count 116 = .ok (.aload_n 0, 1) := by decide +kernel
theorem dX11_count_117 : decode cX11_count 117 = .ok (.iload_n 3, 1) := by decide +kernel
theorem dX11_count_118 : decode cX11_count 118 = .ok (.iload_n 1, 1) := by decide +kernel
theorem dX11_count_119 : decode cX11_count 119 = .ok (.iconst 4, 1) := by decide +kernel
theorem dX11_count_120 : decode cX11_count 120 = .ok (.isub, 1) := by decide +kernel
theorem dX11_count_121 : decode cX11_count 121 = .ok (.invokevirtual 172, 3) := by decide +kernel
theorem dX11_count_124 : decode cX11_count 124 = .ok (.iadd, 1) := by decide +kernel
theorem dX11_count_125 : decode cX11_count 125 = .ok (.istore_n 2, 1) := by decide +kernel
theorem dX11_count_126 : decode cX11_count 126 = .ok (.iinc 3 1, 3) := by decide +kernel
theorem dX11_count_129 : decode cX11_count 129 = .ok (.goto (-35), 3) := by decide +kernel
theorem dX11_count_132 : decode cX11_count 132 = .ok (.iload_n 2, 1) := by decide +kernel
theorem dX11_count_133 : decode cX11_count 133 = .ok (.ireturn, 1) := by decide +kernel
theorem dX11_count_134 : decode cX11_count 134 = .ok (.ldc 91, 2) := by decide +kernel
theorem dX11_count_136 : decode cX11_count 136 = .ok (.ireturn, 1) := by decide +kernel
theorem dX11_status_0 : decode cX11_status 0 = .ok (.aload_n 0, 1) := by decide +kernel
theorem dX11_status_1 : decode cX11_status 1 = .ok (.getfield 75, 3) := by decide +kernel
theorem dX11_status_4 : decode cX11_status 4 = .ok (.ireturn, 1) := by decide +kernel
theorem dL_law_0 : decode cL_law 0 = .ok (.new 7, 3) := by decide +kernel
theorem dL_law_3 : decode cL_law 3 = .ok (.dup, 1) := by decide +kernel
theorem dL_law_4 : decode cL_law 4 = .ok (.invokespecial 9, 3) := by decide +kernel
theorem dL_law_7 : decode cL_law 7 = .ok (.astore_n 1, 1) := by decide +kernel
end
section
theorem dL_law_8 : decode cL_law 8 = .ok (.new 10, 3) := by decide +kernel
theorem dL_law_11 : decode cL_law 11 = .ok (.dup, 1) := by decide +kernel
theorem dL_law_12 : decode cL_law 12 = .ok (.invokespecial 12, 3) := by decide +kernel
theorem dL_law_15 : decode cL_law 15 = .ok (.astore_n 2, 1) := by decide +kernel
theorem dL_law_16 : decode cL_law 16 = .ok (.iconst 0, 1) := by decide +kernel
theorem dL_law_17 : decode cL_law 17 = .ok (.istore_n 3, 1) := by decide +kernel
theorem dL_law_18 : decode cL_law 18 = .ok (.iload_n 3, 1) := by decide +kernel
theorem dL_law_19 : decode cL_law 19 = .ok (.aload_n 0, 1) := by decide +kernel
theorem dL_law_20 : decode cL_law 20 = .ok (.arraylength, 1) := by decide +kernel
theorem dL_law_21 : decode cL_law 21 = .ok (.bipush 6, 2) := by decide +kernel
theorem dL_law_23 : decode cL_law 23 = .ok (.isub, 1) := by decide +kernel
theorem dL_law_24 : decode cL_law 24 = .ok (.if_icmp .gt 982, 3) := by decide +kernel
theorem dL_law_27 : decode cL_law 27 = .ok (.aload_n 0, 1) := by decide +kernel
theorem dL_law_28 : decode cL_law 28 = .ok (.iload_n 3, 1) := by decide +kernel
theorem dL_law_29 : decode cL_law 29 = .ok (.iaload, 1) := by decide +kernel
theorem dL_law_30 : decode cL_law 30 = .ok (.bipush 31, 2) := by decide +kernel
theorem dL_law_32 : decode cL_law 32 = .ok (.iand, 1) := by decide +kernel
theorem dL_law_33 : decode cL_law 33 = .ok (.tableswitch 967 0 26 #[123, 166, 240, 263, 326, 369, 412, 435, 468, 501, 534, 567, 590, 603, 646, 679, 702, 735, 758, 781, 794, 837, 861, 884, 907, 931, 954], 123) := by decide +kernel
theorem dL_law_156 : decode cL_law 156 = .ok (.aload_n 1, 1) := by decide +kernel
theorem dL_law_157 : decode cL_law 157 = .ok (.aload_n 0, 1) := by decide +kernel
theorem dL_law_158 : decode cL_law 158 = .ok (.iload_n 3, 1) := by decide +kernel
theorem dL_law_159 : decode cL_law 159 = .ok (.iconst 1, 1) := by decide +kernel
theorem dL_law_160 : decode cL_law 160 = .ok (.iadd, 1) := by decide +kernel
theorem dL_law_161 : decode cL_law 161 = .ok (.iaload, 1) := by decide +kernel
theorem dL_law_162 : decode cL_law 162 = .ok (.aload_n 0, 1) := by decide +kernel
theorem dL_law_163 : decode cL_law 163 = .ok (.iload_n 3, 1) := by decide +kernel
theorem dL_law_164 : decode cL_law 164 = .ok (.iconst 2, 1) := by decide +kernel
theorem dL_law_165 : decode cL_law 165 = .ok (.iadd, 1) := by decide +kernel
theorem dL_law_166 : decode cL_law 166 = .ok (.iaload, 1) := by decide +kernel
theorem dL_law_167 : decode cL_law 167 = .ok (.aload_n 0, 1) := by decide +kernel
theorem dL_law_168 : decode cL_law 168 = .ok (.iload_n 3, 1) := by decide +kernel
theorem dL_law_169 : decode cL_law 169 = .ok (.iconst 3, 1) := by decide +kernel
theorem dL_law_170 : decode cL_law 170 = .ok (.iadd, 1) := by decide +kernel
theorem dL_law_171 : decode cL_law 171 = .ok (.iaload, 1) := by decide +kernel
theorem dL_law_172 : decode cL_law 172 = .ok (.invokevirtual 13, 3) := by decide +kernel
theorem dL_law_175 : decode cL_law 175 = .ok (.aload_n 2, 1) := by decide +kernel
theorem dL_law_176 : decode cL_law 176 = .ok (.aload_n 0, 1) := by decide +kernel
theorem dL_law_177 : decode cL_law 177 = .ok (.iload_n 3, 1) := by decide +kernel
theorem dL_law_178 : decode cL_law 178 = .ok (.iconst 1, 1) := by decide +kernel
theorem dL_law_179 : decode cL_law 179 = .ok (.iadd, 1) := by decide +kernel
theorem dL_law_180 : decode cL_law 180 = .ok (.iaload, 1) := by decide +kernel
theorem dL_law_181 : decode cL_law 181 = .ok (.aload_n 0, 1) := by decide +kernel
theorem dL_law_182 : decode cL_law 182 = .ok (.iload_n 3, 1) := by decide +kernel
theorem dL_law_183 : decode cL_law 183 = .ok (.iconst 2, 1) := by decide +kernel
theorem dL_law_184 : decode cL_law 184 = .ok (.iadd, 1) := by decide +kernel
theorem dL_law_185 : decode cL_law 185 = .ok (.iaload, 1) := by decide +kernel
theorem dL_law_186 : decode cL_law 186 = .ok (.aload_n 0, 1) := by decide +kernel
theorem dL_law_187 : decode cL_law 187 = .ok (.iload_n 3, 1) := by decide +kernel
theorem dL_law_188 : decode cL_law 188 = .ok (.iconst 3, 1) := by decide +kernel
theorem dL_law_189 : decode cL_law 189 = .ok (.iadd, 1) := by decide +kernel
theorem dL_law_190 : decode cL_law 190 = .ok (.iaload, 1) := by decide +kernel
theorem dL_law_191 : decode cL_law 191 = .ok (.invokevirtual 17, 3) := by decide +kernel
theorem dL_law_194 : decode cL_law 194 = .ok (.if_icmp .eq 806, 3) := by decide +kernel
theorem dL_law_197 : decode cL_law 197 = .ok (.iconst 0, 1) := by decide +kernel
theorem dL_law_198 : decode cL_law 198 = .ok (.ireturn, 1) := by decide +kernel
theorem dL_law_199 : decode cL_law 199 = .ok (.aload_n 1, 1) := by decide +kernel
theorem dL_law_200 : decode cL_law 200 = .ok (.aload_n 0, 1) := by decide +kernel
theorem dL_law_201 : decode cL_law 201 = .ok (.iload_n 3, 1) := by decide +kernel
theorem dL_law_202 : decode cL_law 202 = .ok (.iconst 1, 1) := by decide +kernel
theorem dL_law_203 : decode cL_law 203 = .ok (.iadd, 1) := by decide +kernel
theorem dL_law_204 : decode cL_law 204 = .ok (.iaload, 1) := by decide +kernel
theorem dL_law_205 : decode cL_law 205 = .ok (.aload_n 0, 1) := by decide +kernel
theorem dL_law_206 : decode cL_law 206 = .ok (.iload_n 3, 1) := by decide +kernel
theorem dL_law_207 : decode cL_law 207 = .ok (.iconst 2, 1) := by decide +kernel
theorem dL_law_208 : decode cL_law 208 = .ok (.iadd, 1) := by decide +kernel
theorem dL_law_209 : decode cL_law 209 = .ok (.iaload, 1) := by decide +kernel
theorem dL_law_210 : decode cL_law 210 = .ok (.aload_n 0, 1) := by decide +kernel
theorem dL_law_211 : decode cL_law 211 = .ok (.iload_n 3, 1) := by decide +kernel
theorem dL_law_212 : decode cL_law 212 = .ok (.iconst 3, 1) := by decide +kernel
theorem dL_law_213 : decode cL_law 213 = .ok (.iadd, 1) := by decide +kernel
theorem dL_law_214 : decode cL_law 214 = .ok (.iaload, 1) := by decide +kernel
theorem dL_law_215 : decode cL_law 215 = .ok (.i2l, 1) := by decide +kernel
theorem dL_law_216 : decode cL_law 216 = .ok (.bipush 32, 2) := by decide +kernel
theorem dL_law_218 : decode cL_law 218 = .ok (.lshl, 1) := by decide +kernel
theorem dL_law_219 : decode cL_law 219 = .ok (.aload_n 0, 1) := by decide +kernel
theorem dL_law_220 : decode cL_law 220 = .ok (.iload_n 3, 1) := by decide +kernel
theorem dL_law_221 : decode cL_law 221 = .ok (.iconst 4, 1) := by decide +kernel
theorem dL_law_222 : decode cL_law 222 = .ok (.iadd, 1) := by decide +kernel
theorem dL_law_223 : decode cL_law 223 = .ok (.iaload, 1) := by decide +kernel
theorem dL_law_224 : decode cL_law 224 = .ok (.i2l, 1) := by decide +kernel
theorem dL_law_225 : decode cL_law 225 = .ok (.ldc2_w 18, 3) := by decide +kernel
theorem dL_law_228 : decode cL_law 228 = .ok (.land, 1) := by decide +kernel
theorem dL_law_229 : decode cL_law 229 = .ok (.lor, 1) := by decide +kernel
theorem dL_law_230 : decode cL_law 230 = .ok (.invokevirtual 20, 3) := by decide +kernel
theorem dL_law_233 : decode cL_law 233 = .ok (.aload_n 2, 1) := by decide +kernel
theorem dL_law_234 : decode cL_law 234 = .ok (.aload_n 0, 1) := by decide +kernel
theorem dL_law_235 : decode cL_law 235 = .ok (.iload_n 3, 1) := by decide +kernel
theorem dL_law_236 : decode cL_law 236 = .ok (.iconst 1, 1) := by decide +kernel
theorem dL_law_237 : decode cL_law 237 = .ok (.iadd, 1) := by decide +kernel
theorem dL_law_238 : decode cL_law 238 = .ok (.iaload, 1) := by decide +kernel
theorem dL_law_239 : decode cL_law 239 = .ok (.aload_n 0, 1) := by decide +kernel
theorem dL_law_240 : decode cL_law 240 = .ok (.iload_n 3, 1) := by decide +kernel
theorem dL_law_241 : decode cL_law 241 = .ok (.iconst 2, 1) := by decide +kernel
theorem dL_law_242 : decode cL_law 242 = .ok (.iadd, 1) := by decide +kernel
theorem dL_law_243 : decode cL_law 243 = .ok (.iaload, 1) := by decide +kernel
theorem dL_law_244 : decode cL_law 244 = .ok (.aload_n 0, 1) := by decide +kernel
theorem dL_law_245 : decode cL_law 245 = .ok (.iload_n 3, 1) := by decide +kernel
theorem dL_law_246 : decode cL_law 246 = .ok (.iconst 3, 1) := by decide +kernel
theorem dL_law_247 : decode cL_law 247 = .ok (.iadd, 1) := by decide +kernel
theorem dL_law_248 : decode cL_law 248 = .ok (.iaload, 1) := by decide +kernel
theorem dL_law_249 : decode cL_law 249 = .ok (.i2l, 1) := by decide +kernel
theorem dL_law_250 : decode cL_law 250 = .ok (.bipush 32, 2) := by decide +kernel
theorem dL_law_252 : decode cL_law 252 = .ok (.lshl, 1) := by decide +kernel
theorem dL_law_253 : decode cL_law 253 = .ok (.aload_n 0, 1) := by decide +kernel
theorem dL_law_254 : decode cL_law 254 = .ok (.iload_n 3, 1) := by decide +kernel
theorem dL_law_255 : decode cL_law 255 = .ok (.iconst 4, 1) := by decide +kernel
theorem dL_law_256 : decode cL_law 256 = .ok (.iadd, 1) := by decide +kernel
theorem dL_law_257 : decode cL_law 257 = .ok (.iaload, 1) := by decide +kernel
theorem dL_law_258 : decode cL_law 258 = .ok (.i2l, 1) := by decide +kernel
theorem dL_law_259 : decode cL_law 259 = .ok (.ldc2_w 18, 3) := by decide +kernel
theorem dL_law_262 : decode cL_law 262 = .ok (.land, 1) := by decide +kernel
theorem dL_law_263 : decode cL_law 263 = .ok (.lor, 1) := by decide +kernel
theorem dL_law_264 : decode cL_law 264 = .ok (.invokevirtual 24, 3) := by decide +kernel
theorem dL_law_267 : decode cL_law 267 = .ok (.lcmp, 1) := by decide +kernel
theorem dL_law_268 : decode cL_law 268 = .ok (.ifCond .eq 732, 3) := by decide +kernel
theorem dL_law_271 : decode cL_law 271 = .ok (.iconst 0, 1) := by decide +kernel
theorem dL_law_272 : decode cL_law 272 = .ok (.ireturn, 1) := by decide +kernel
theorem dL_law_273 : decode cL_law 273 = .ok (.aload_n 1, 1) := by decide +kernel
theorem dL_law_274 : decode cL_law 274 = .ok (.aload_n 0, 1) := by decide +kernel
theorem dL_law_275 : decode cL_law 275 = .ok (.iload_n 3, 1) := by decide +kernel
theorem dL_law_276 : decode cL_law 276 = .ok (.iconst 1, 1) := by decide +kernel
theorem dL_law_277 : decode cL_law 277 = .ok (.iadd, 1) := by decide +kernel
theorem dL_law_278 : decode cL_law 278 = .ok (.iaload, 1) := by decide +kernel
theorem dL_law_279 : decode cL_law 279 = .ok (.invokevirtual 25, 3) := by decide +kernel
theorem dL_law_282 : decode cL_law 282 = .ok (.aload_n 2, 1) := by decide +kernel
theorem dL_law_283 : decode cL_law 283 = .ok (.aload_n 0, 1) := by decide +kernel
theorem dL_law_284 : decode cL_law 284 = .ok (.iload_n 3, 1) := by decide +kernel
theorem dL_law_285 : decode cL_law 285 = .ok (.iconst 1, 1) := by decide +kernel
theorem dL_law_286 : decode cL_law 286 = .ok (.iadd, 1) := by decide +kernel
theorem dL_law_287 : decode cL_law 287 = .ok (.iaload, 1) := by decide +kernel
theorem dL_law_288 : decode cL_law 288 = .ok (.invokevirtual 29, 3) := by decide +kernel
theorem dL_law_291 : decode cL_law 291 = .ok (.if_icmp .eq 709, 3) := by decide +kernel
theorem dL_law_294 : decode cL_law 294 = .ok (.iconst 0, 1) := by decide +kernel
theorem dL_law_295 : decode cL_law 295 = .ok (.ireturn, 1) := by decide +kernel
theorem dL_law_296 : decode cL_law 296 = .ok (.aload_n 1, 1) := by decide +kernel
theorem dL_law_297 : decode cL_law 297 = .ok (.aload_n 0, 1) := by decide +kernel
theorem dL_law_298 : decode cL_law 298 = .ok (.iload_n 3, 1) := by decide +kernel
theorem dL_law_299 : decode cL_law 299 = .ok (.iconst 1, 1) := by decide +kernel
theorem dL_law_300 : decode cL_law 300 = .ok (.iadd, 1) := by decide +kernel
theorem dL_law_301 : decode cL_law 301 = .ok (.iaload, 1) := by decide +kernel
theorem dL_law_302 : decode cL_law 302 = .ok (.aload_n 0, 1) := by decide +kernel
theorem dL_law_303 : decode cL_law 303 = .ok (.iload_n 3, 1) := by decide +kernel
theorem dL_law_304 : decode cL_law 304 = .ok (.iconst 2, 1) := by decide +kernel
theorem dL_law_305 : decode cL_law 305 = .ok (.iadd, 1) := by decide +kernel
theorem dL_law_306 : decode cL_law 306 = .ok (.iaload, 1) := by decide +kernel
theorem dL_law_307 : decode cL_law 307 = .ok (.aload_n 0, 1) := by decide +kernel
theorem dL_law_308 : decode cL_law 308 = .ok (.iload_n 3, 1) := by decide +kernel
theorem dL_law_309 : decode cL_law 309 = .ok (.iconst 3, 1) := by decide +kernel
theorem dL_law_310 : decode cL_law 310 = .ok (.iadd, 1) := by decide +kernel
theorem dL_law_311 : decode cL_law 311 = .ok (.iaload, 1) := by decide +kernel
theorem dL_law_312 : decode cL_law 312 = .ok (.aload_n 0, 1) := by decide +kernel
theorem dL_law_313 : decode cL_law 313 = .ok (.iload_n 3, 1) := by decide +kernel
theorem dL_law_314 : decode cL_law 314 = .ok (.iconst 4, 1) := by decide +kernel
theorem dL_law_315 : decode cL_law 315 = .ok (.iadd, 1) := by decide +kernel
theorem dL_law_316 : decode cL_law 316 = .ok (.iaload, 1) := by decide +kernel
theorem dL_law_317 : decode cL_law 317 = .ok (.aload_n 0, 1) := by decide +kernel
theorem dL_law_318 : decode cL_law 318 = .ok (.iload_n 3, 1) := by decide +kernel
theorem dL_law_319 : decode cL_law 319 = .ok (.iconst 5, 1) := by decide +kernel
theorem dL_law_320 : decode cL_law 320 = .ok (.iadd, 1) := by decide +kernel
theorem dL_law_321 : decode cL_law 321 = .ok (.iaload, 1) := by decide +kernel
theorem dL_law_322 : decode cL_law 322 = .ok (.invokevirtual 30, 3) := by decide +kernel
theorem dL_law_325 : decode cL_law 325 = .ok (.aload_n 2, 1) := by decide +kernel
theorem dL_law_326 : decode cL_law 326 = .ok (.aload_n 0, 1) := by decide +kernel
theorem dL_law_327 : decode cL_law 327 = .ok (.iload_n 3, 1) := by decide +kernel
theorem dL_law_328 : decode cL_law 328 = .ok (.iconst 1, 1) := by decide +kernel
theorem dL_law_329 : decode cL_law 329 = .ok (.iadd, 1) := by decide +kernel
theorem dL_law_330 : decode cL_law 330 = .ok (.iaload, 1) := by decide +kernel
theorem dL_law_331 : decode cL_law 331 = .ok (.aload_n 0, 1) := by decide +kernel
theorem dL_law_332 : decode cL_law 332 = .ok (.iload_n 3, 1) := by decide +kernel
theorem dL_law_333 : decode cL_law 333 = .ok (.iconst 2, 1) := by decide +kernel
theorem dL_law_334 : decode cL_law 334 = .ok (.iadd, 1) := by decide +kernel
theorem dL_law_335 : decode cL_law 335 = .ok (.iaload, 1) := by decide +kernel
theorem dL_law_336 : decode cL_law 336 = .ok (.aload_n 0, 1) := by decide +kernel
theorem dL_law_337 : decode cL_law 337 = .ok (.iload_n 3, 1) := by decide +kernel
theorem dL_law_338 : decode cL_law 338 = .ok (.iconst 3, 1) := by decide +kernel
theorem dL_law_339 : decode cL_law 339 = .ok (.iadd, 1) := by decide +kernel
theorem dL_law_340 : decode cL_law 340 = .ok (.iaload, 1) := by decide +kernel
theorem dL_law_341 : decode cL_law 341 = .ok (.aload_n 0, 1) := by decide +kernel
theorem dL_law_342 : decode cL_law 342 = .ok (.iload_n 3, 1) := by decide +kernel
theorem dL_law_343 : decode cL_law 343 = .ok (.iconst 4, 1) := by decide +kernel
theorem dL_law_344 : decode cL_law 344 = .ok (.iadd, 1) := by decide +kernel
theorem dL_law_345 : decode cL_law 345 = .ok (.iaload, 1) := by decide +kernel
theorem dL_law_346 : decode cL_law 346 = .ok (.aload_n 0, 1) := by decide +kernel
theorem dL_law_347 : decode cL_law 347 = .ok (.iload_n 3, 1) := by decide +kernel
theorem dL_law_348 : decode cL_law 348 = .ok (.iconst 5, 1) := by decide +kernel
theorem dL_law_349 : decode cL_law 349 = .ok (.iadd, 1) := by decide +kernel
theorem dL_law_350 : decode cL_law 350 = .ok (.iaload, 1) := by decide +kernel
theorem dL_law_351 : decode cL_law 351 = .ok (.invokevirtual 34, 3) := by decide +kernel
theorem dL_law_354 : decode cL_law 354 = .ok (.if_icmp .eq 646, 3) := by decide +kernel
theorem dL_law_357 : decode cL_law 357 = .ok (.iconst 0, 1) := by decide +kernel
theorem dL_law_358 : decode cL_law 358 = .ok (.ireturn, 1) := by decide +kernel
theorem dL_law_359 : decode cL_law 359 = .ok (.aload_n 1, 1) := by decide +kernel
theorem dL_law_360 : decode cL_law 360 = .ok (.aload_n 0, 1) := by decide +kernel
theorem dL_law_361 : decode cL_law 361 = .ok (.iload_n 3, 1) := by decide +kernel
theorem dL_law_362 : decode cL_law 362 = .ok (.iconst 1, 1) := by decide +kernel
theorem dL_law_363 : decode cL_law 363 = .ok (.iadd, 1) := by decide +kernel
theorem dL_law_364 : decode cL_law 364 = .ok (.iaload, 1) := by decide +kernel
theorem dL_law_365 : decode cL_law 365 = .ok (.aload_n 0, 1) := by decide +kernel
theorem dL_law_366 : decode cL_law 366 = .ok (.iload_n 3, 1) := by decide +kernel
theorem dL_law_367 : decode cL_law 367 = .ok (.iconst 2, 1) := by decide +kernel
theorem dL_law_368 : decode cL_law 368 = .ok (.iadd, 1) := by decide +kernel
theorem dL_law_369 : decode cL_law 369 = .ok (.iaload, 1) := by decide +kernel
theorem dL_law_370 : decode cL_law 370 = .ok (.aload_n 0, 1) := by decide +kernel
theorem dL_law_371 : decode cL_law 371 = .ok (.iload_n 3, 1) := by decide +kernel
theorem dL_law_372 : decode cL_law 372 = .ok (.iconst 3, 1) := by decide +kernel
theorem dL_law_373 : decode cL_law 373 = .ok (.iadd, 1) := by decide +kernel
theorem dL_law_374 : decode cL_law 374 = .ok (.iaload, 1) := by decide +kernel
theorem dL_law_375 : decode cL_law 375 = .ok (.invokevirtual 35, 3) := by decide +kernel
theorem dL_law_378 : decode cL_law 378 = .ok (.aload_n 2, 1) := by decide +kernel
theorem dL_law_379 : decode cL_law 379 = .ok (.aload_n 0, 1) := by decide +kernel
theorem dL_law_380 : decode cL_law 380 = .ok (.iload_n 3, 1) := by decide +kernel
theorem dL_law_381 : decode cL_law 381 = .ok (.iconst 1, 1) := by decide +kernel
theorem dL_law_382 : decode cL_law 382 = .ok (.iadd, 1) := by decide +kernel
theorem dL_law_383 : decode cL_law 383 = .ok (.iaload, 1) := by decide +kernel
theorem dL_law_384 : decode cL_law 384 = .ok (.aload_n 0, 1) := by decide +kernel
theorem dL_law_385 : decode cL_law 385 = .ok (.iload_n 3, 1) := by decide +kernel
theorem dL_law_386 : decode cL_law 386 = .ok (.iconst 2, 1) := by decide +kernel
theorem dL_law_387 : decode cL_law 387 = .ok (.iadd, 1) := by decide +kernel
theorem dL_law_388 : decode cL_law 388 = .ok (.iaload, 1) := by decide +kernel
theorem dL_law_389 : decode cL_law 389 = .ok (.aload_n 0, 1) := by decide +kernel
theorem dL_law_390 : decode cL_law 390 = .ok (.iload_n 3, 1) := by decide +kernel
theorem dL_law_391 : decode cL_law 391 = .ok (.iconst 3, 1) := by decide +kernel
theorem dL_law_392 : decode cL_law 392 = .ok (.iadd, 1) := by decide +kernel
theorem dL_law_393 : decode cL_law 393 = .ok (.iaload, 1) := by decide +kernel
theorem dL_law_394 : decode cL_law 394 = .ok (.invokevirtual 38, 3) := by decide +kernel
theorem dL_law_397 : decode cL_law 397 = .ok (.if_icmp .eq 603, 3) := by decide +kernel
theorem dL_law_400 : decode cL_law 400 = .ok (.iconst 0, 1) := by decide +kernel
theorem dL_law_401 : decode cL_law 401 = .ok (.ireturn, 1) := by decide +kernel
theorem dL_law_402 : decode cL_law 402 = .ok (.aload_n 1, 1) := by decide +kernel
theorem dL_law_403 : decode cL_law 403 = .ok (.aload_n 0, 1) := by decide +kernel
theorem dL_law_404 : decode cL_law 404 = .ok (.iload_n 3, 1) := by decide +kernel
theorem dL_law_405 : decode cL_law 405 = .ok (.iconst 1, 1) := by decide +kernel
theorem dL_law_406 : decode cL_law 406 = .ok (.iadd, 1) := by decide +kernel
theorem dL_law_407 : decode cL_law 407 = .ok (.iaload, 1) := by decide +kernel
theorem dL_law_408 : decode cL_law 408 = .ok (.aload_n 0, 1) := by decide +kernel
theorem dL_law_409 : decode cL_law 409 = .ok (.iload_n 3, 1) := by decide +kernel
theorem dL_law_410 : decode cL_law 410 = .ok (.iconst 2, 1) := by decide +kernel
theorem dL_law_411 : decode cL_law 411 = .ok (.iadd, 1) := by decide +kernel
theorem dL_law_412 : decode cL_law 412 = .ok (.iaload, 1) := by decide +kernel
theorem dL_law_413 : decode cL_law 413 = .ok (.aload_n 0, 1) := by decide +kernel
theorem dL_law_414 : decode cL_law 414 = .ok (.iload_n 3, 1) := by decide +kernel
theorem dL_law_415 : decode cL_law 415 = .ok (.iconst 3, 1) := by decide +kernel
theorem dL_law_416 : decode cL_law 416 = .ok (.iadd, 1) := by decide +kernel
theorem dL_law_417 : decode cL_law 417 = .ok (.iaload, 1) := by decide +kernel
theorem dL_law_418 : decode cL_law 418 = .ok (.invokevirtual 39, 3) := by decide +kernel
theorem dL_law_421 : decode cL_law 421 = .ok (.aload_n 2, 1) := by decide +kernel
theorem dL_law_422 : decode cL_law 422 = .ok (.aload_n 0, 1) := by decide +kernel
theorem dL_law_423 : decode cL_law 423 = .ok (.iload_n 3, 1) := by decide +kernel
theorem dL_law_424 : decode cL_law 424 = .ok (.iconst 1, 1) := by decide +kernel
theorem dL_law_425 : decode cL_law 425 = .ok (.iadd, 1) := by decide +kernel
theorem dL_law_426 : decode cL_law 426 = .ok (.iaload, 1) := by decide +kernel
theorem dL_law_427 : decode cL_law 427 = .ok (.aload_n 0, 1) := by decide +kernel
theorem dL_law_428 : decode cL_law 428 = .ok (.iload_n 3, 1) := by decide +kernel
theorem dL_law_429 : decode cL_law 429 = .ok (.iconst 2, 1) := by decide +kernel
theorem dL_law_430 : decode cL_law 430 = .ok (.iadd, 1) := by decide +kernel
theorem dL_law_431 : decode cL_law 431 = .ok (.iaload, 1) := by decide +kernel
theorem dL_law_432 : decode cL_law 432 = .ok (.aload_n 0, 1) := by decide +kernel
theorem dL_law_433 : decode cL_law 433 = .ok (.iload_n 3, 1) := by decide +kernel
theorem dL_law_434 : decode cL_law 434 = .ok (.iconst 3, 1) := by decide +kernel
theorem dL_law_435 : decode cL_law 435 = .ok (.iadd, 1) := by decide +kernel
theorem dL_law_436 : decode cL_law 436 = .ok (.iaload, 1) := by decide +kernel
theorem dL_law_437 : decode cL_law 437 = .ok (.invokevirtual 42, 3) := by decide +kernel
theorem dL_law_440 : decode cL_law 440 = .ok (.if_icmp .eq 560, 3) := by decide +kernel
theorem dL_law_443 : decode cL_law 443 = .ok (.iconst 0, 1) := by decide +kernel
theorem dL_law_444 : decode cL_law 444 = .ok (.ireturn, 1) := by decide +kernel
theorem dL_law_445 : decode cL_law 445 = .ok (.aload_n 1, 1) := by decide +kernel
theorem dL_law_446 : decode cL_law 446 = .ok (.aload_n 0, 1) := by decide +kernel
theorem dL_law_447 : decode cL_law 447 = .ok (.iload_n 3, 1) := by decide +kernel
theorem dL_law_448 : decode cL_law 448 = .ok (.iconst 1, 1) := by decide +kernel
theorem dL_law_449 : decode cL_law 449 = .ok (.iadd, 1) := by decide +kernel
theorem dL_law_450 : decode cL_law 450 = .ok (.iaload, 1) := by decide +kernel
theorem dL_law_451 : decode cL_law 451 = .ok (.invokevirtual 43, 3) := by decide +kernel
theorem dL_law_454 : decode cL_law 454 = .ok (.aload_n 2, 1) := by decide +kernel
theorem dL_law_455 : decode cL_law 455 = .ok (.aload_n 0, 1) := by decide +kernel
theorem dL_law_456 : decode cL_law 456 = .ok (.iload_n 3, 1) := by decide +kernel
theorem dL_law_457 : decode cL_law 457 = .ok (.iconst 1, 1) := by decide +kernel
theorem dL_law_458 : decode cL_law 458 = .ok (.iadd, 1) := by decide +kernel
theorem dL_law_459 : decode cL_law 459 = .ok (.iaload, 1) := by decide +kernel
theorem dL_law_460 : decode cL_law 460 = .ok (.invokevirtual 46, 3) := by decide +kernel
theorem dL_law_463 : decode cL_law 463 = .ok (.if_icmp .eq 537, 3) := by decide +kernel
theorem dL_law_466 : decode cL_law 466 = .ok (.iconst 0, 1) := by decide +kernel
theorem dL_law_467 : decode cL_law 467 = .ok (.ireturn, 1) := by decide +kernel
theorem dL_law_468 : decode cL_law 468 = .ok (.aload_n 1, 1) := by decide +kernel
theorem dL_law_469 : decode cL_law 469 = .ok (.aload_n 0, 1) := by decide +kernel
theorem dL_law_470 : decode cL_law 470 = .ok (.iload_n 3, 1) := by decide +kernel
theorem dL_law_471 : decode cL_law 471 = .ok (.iconst 1, 1) := by decide +kernel
theorem dL_law_472 : decode cL_law 472 = .ok (.iadd, 1) := by decide +kernel
theorem dL_law_473 : decode cL_law 473 = .ok (.iaload, 1) := by decide +kernel
theorem dL_law_474 : decode cL_law 474 = .ok (.aload_n 0, 1) := by decide +kernel
theorem dL_law_475 : decode cL_law 475 = .ok (.iload_n 3, 1) := by decide +kernel
theorem dL_law_476 : decode cL_law 476 = .ok (.iconst 2, 1) := by decide +kernel
theorem dL_law_477 : decode cL_law 477 = .ok (.iadd, 1) := by decide +kernel
theorem dL_law_478 : decode cL_law 478 = .ok (.iaload, 1) := by decide +kernel
theorem dL_law_479 : decode cL_law 479 = .ok (.invokevirtual 47, 3) := by decide +kernel
theorem dL_law_482 : decode cL_law 482 = .ok (.aload_n 2, 1) := by decide +kernel
theorem dL_law_483 : decode cL_law 483 = .ok (.aload_n 0, 1) := by decide +kernel
theorem dL_law_484 : decode cL_law 484 = .ok (.iload_n 3, 1) := by decide +kernel
theorem dL_law_485 : decode cL_law 485 = .ok (.iconst 1, 1) := by decide +kernel
theorem dL_law_486 : decode cL_law 486 = .ok (.iadd, 1) := by decide +kernel
theorem dL_law_487 : decode cL_law 487 = .ok (.iaload, 1) := by decide +kernel
theorem dL_law_488 : decode cL_law 488 = .ok (.aload_n 0, 1) := by decide +kernel
theorem dL_law_489 : decode cL_law 489 = .ok (.iload_n 3, 1) := by decide +kernel
theorem dL_law_490 : decode cL_law 490 = .ok (.iconst 2, 1) := by decide +kernel
theorem dL_law_491 : decode cL_law 491 = .ok (.iadd, 1) := by decide +kernel
theorem dL_law_492 : decode cL_law 492 = .ok (.iaload, 1) := by decide +kernel
theorem dL_law_493 : decode cL_law 493 = .ok (.invokevirtual 51, 3) := by decide +kernel
theorem dL_law_496 : decode cL_law 496 = .ok (.if_icmp .eq 504, 3) := by decide +kernel
theorem dL_law_499 : decode cL_law 499 = .ok (.iconst 0, 1) := by decide +kernel
theorem dL_law_500 : decode cL_law 500 = .ok (.ireturn, 1) := by decide +kernel
theorem dL_law_501 : decode cL_law 501 = .ok (.aload_n 1, 1) := by decide +kernel
theorem dL_law_502 : decode cL_law 502 = .ok (.aload_n 0, 1) := by decide +kernel
theorem dL_law_503 : decode cL_law 503 = .ok (.iload_n 3, 1) := by decide +kernel
theorem dL_law_504 : decode cL_law 504 = .ok (.iconst 1, 1) := by decide +kernel
theorem dL_law_505 : decode cL_law 505 = .ok (.iadd, 1) := by decide +kernel
theorem dL_law_506 : decode cL_law 506 = .ok (.iaload, 1) := by decide +kernel
theorem dL_law_507 : decode cL_law 507 = .ok (.aload_n 0, 1) := by decide +kernel
theorem dL_law_508 : decode cL_law 508 = .ok (.iload_n 3, 1) := by decide +kernel
theorem dL_law_509 : decode cL_law 509 = .ok (.iconst 2, 1) := by decide +kernel
theorem dL_law_510 : decode cL_law 510 = .ok (.iadd, 1) := by decide +kernel
theorem dL_law_511 : decode cL_law 511 = .ok (.iaload, 1) := by decide +kernel
theorem dL_law_512 : decode cL_law 512 = .ok (.invokevirtual 52, 3) := by decide +kernel
theorem dL_law_515 : decode cL_law 515 = .ok (.aload_n 2, 1) := by decide +kernel
theorem dL_law_516 : decode cL_law 516 = .ok (.aload_n 0, 1) := by decide +kernel
theorem dL_law_517 : decode cL_law 517 = .ok (.iload_n 3, 1) := by decide +kernel
theorem dL_law_518 : decode cL_law 518 = .ok (.iconst 1, 1) := by decide +kernel
theorem dL_law_519 : decode cL_law 519 = .ok (.iadd, 1) := by decide +kernel
theorem dL_law_520 : decode cL_law 520 = .ok (.iaload, 1) := by decide +kernel
theorem dL_law_521 : decode cL_law 521 = .ok (.aload_n 0, 1) := by decide +kernel
theorem dL_law_522 : decode cL_law 522 = .ok (.iload_n 3, 1) := by decide +kernel
theorem dL_law_523 : decode cL_law 523 = .ok (.iconst 2, 1) := by decide +kernel
theorem dL_law_524 : decode cL_law 524 = .ok (.iadd, 1) := by decide +kernel
theorem dL_law_525 : decode cL_law 525 = .ok (.iaload, 1) := by decide +kernel
theorem dL_law_526 : decode cL_law 526 = .ok (.invokevirtual 55, 3) := by decide +kernel
theorem dL_law_529 : decode cL_law 529 = .ok (.if_icmp .eq 471, 3) := by decide +kernel
theorem dL_law_532 : decode cL_law 532 = .ok (.iconst 0, 1) := by decide +kernel
theorem dL_law_533 : decode cL_law 533 = .ok (.ireturn, 1) := by decide +kernel
theorem dL_law_534 : decode cL_law 534 = .ok (.aload_n 1, 1) := by decide +kernel
theorem dL_law_535 : decode cL_law 535 = .ok (.aload_n 0, 1) := by decide +kernel
theorem dL_law_536 : decode cL_law 536 = .ok (.iload_n 3, 1) := by decide +kernel
theorem dL_law_537 : decode cL_law 537 = .ok (.iconst 1, 1) := by decide +kernel
theorem dL_law_538 : decode cL_law 538 = .ok (.iadd, 1) := by decide +kernel
theorem dL_law_539 : decode cL_law 539 = .ok (.iaload, 1) := by decide +kernel
theorem dL_law_540 : decode cL_law 540 = .ok (.aload_n 0, 1) := by decide +kernel
theorem dL_law_541 : decode cL_law 541 = .ok (.iload_n 3, 1) := by decide +kernel
theorem dL_law_542 : decode cL_law 542 = .ok (.iconst 2, 1) := by decide +kernel
theorem dL_law_543 : decode cL_law 543 = .ok (.iadd, 1) := by decide +kernel
theorem dL_law_544 : decode cL_law 544 = .ok (.iaload, 1) := by decide +kernel
theorem dL_law_545 : decode cL_law 545 = .ok (.invokevirtual 56, 3) := by decide +kernel
theorem dL_law_548 : decode cL_law 548 = .ok (.aload_n 2, 1) := by decide +kernel
theorem dL_law_549 : decode cL_law 549 = .ok (.aload_n 0, 1) := by decide +kernel
theorem dL_law_550 : decode cL_law 550 = .ok (.iload_n 3, 1) := by decide +kernel
theorem dL_law_551 : decode cL_law 551 = .ok (.iconst 1, 1) := by decide +kernel
theorem dL_law_552 : decode cL_law 552 = .ok (.iadd, 1) := by decide +kernel
theorem dL_law_553 : decode cL_law 553 = .ok (.iaload, 1) := by decide +kernel
theorem dL_law_554 : decode cL_law 554 = .ok (.aload_n 0, 1) := by decide +kernel
theorem dL_law_555 : decode cL_law 555 = .ok (.iload_n 3, 1) := by decide +kernel
theorem dL_law_556 : decode cL_law 556 = .ok (.iconst 2, 1) := by decide +kernel
theorem dL_law_557 : decode cL_law 557 = .ok (.iadd, 1) := by decide +kernel
theorem dL_law_558 : decode cL_law 558 = .ok (.iaload, 1) := by decide +kernel
theorem dL_law_559 : decode cL_law 559 = .ok (.invokevirtual 59, 3) := by decide +kernel
theorem dL_law_562 : decode cL_law 562 = .ok (.if_icmp .eq 438, 3) := by decide +kernel
theorem dL_law_565 : decode cL_law 565 = .ok (.iconst 0, 1) := by decide +kernel
theorem dL_law_566 : decode cL_law 566 = .ok (.ireturn, 1) := by decide +kernel
theorem dL_law_567 : decode cL_law 567 = .ok (.aload_n 1, 1) := by decide +kernel
theorem dL_law_568 : decode cL_law 568 = .ok (.aload_n 0, 1) := by decide +kernel
theorem dL_law_569 : decode cL_law 569 = .ok (.iload_n 3, 1) := by decide +kernel
theorem dL_law_570 : decode cL_law 570 = .ok (.iconst 1, 1) := by decide +kernel
theorem dL_law_571 : decode cL_law 571 = .ok (.iadd, 1) := by decide +kernel
theorem dL_law_572 : decode cL_law 572 = .ok (.iaload, 1) := by decide +kernel
theorem dL_law_573 : decode cL_law 573 = .ok (.aload_n 0, 1) := by decide +kernel
theorem dL_law_574 : decode cL_law 574 = .ok (.iload_n 3, 1) := by decide +kernel
theorem dL_law_575 : decode cL_law 575 = .ok (.iconst 2, 1) := by decide +kernel
theorem dL_law_576 : decode cL_law 576 = .ok (.iadd, 1) := by decide +kernel
theorem dL_law_577 : decode cL_law 577 = .ok (.iaload, 1) := by decide +kernel
theorem dL_law_578 : decode cL_law 578 = .ok (.invokevirtual 60, 3) := by decide +kernel
theorem dL_law_581 : decode cL_law 581 = .ok (.aload_n 2, 1) := by decide +kernel
theorem dL_law_582 : decode cL_law 582 = .ok (.aload_n 0, 1) := by decide +kernel
theorem dL_law_583 : decode cL_law 583 = .ok (.iload_n 3, 1) := by decide +kernel
theorem dL_law_584 : decode cL_law 584 = .ok (.iconst 1, 1) := by decide +kernel
theorem dL_law_585 : decode cL_law 585 = .ok (.iadd, 1) := by decide +kernel
theorem dL_law_586 : decode cL_law 586 = .ok (.iaload, 1) := by decide +kernel
theorem dL_law_587 : decode cL_law 587 = .ok (.aload_n 0, 1) := by decide +kernel
theorem dL_law_588 : decode cL_law 588 = .ok (.iload_n 3, 1) := by decide +kernel
theorem dL_law_589 : decode cL_law 589 = .ok (.iconst 2, 1) := by decide +kernel
theorem dL_law_590 : decode cL_law 590 = .ok (.iadd, 1) := by decide +kernel
theorem dL_law_591 : decode cL_law 591 = .ok (.iaload, 1) := by decide +kernel
theorem dL_law_592 : decode cL_law 592 = .ok (.invokevirtual 63, 3) := by decide +kernel
theorem dL_law_595 : decode cL_law 595 = .ok (.if_icmp .eq 405, 3) := by decide +kernel
theorem dL_law_598 : decode cL_law 598 = .ok (.iconst 0, 1) := by decide +kernel
theorem dL_law_599 : decode cL_law 599 = .ok (.ireturn, 1) := by decide +kernel
theorem dL_law_600 : decode cL_law 600 = .ok (.aload_n 1, 1) := by decide +kernel
theorem dL_law_601 : decode cL_law 601 = .ok (.aload_n 0, 1) := by decide +kernel
theorem dL_law_602 : decode cL_law 602 = .ok (.iload_n 3, 1) := by decide +kernel
theorem dL_law_603 : decode cL_law 603 = .ok (.iconst 1, 1) := by decide +kernel
theorem dL_law_604 : decode cL_law 604 = .ok (.iadd, 1) := by decide +kernel
theorem dL_law_605 : decode cL_law 605 = .ok (.iaload, 1) := by decide +kernel
theorem dL_law_606 : decode cL_law 606 = .ok (.invokevirtual 64, 3) := by decide +kernel
theorem dL_law_609 : decode cL_law 609 = .ok (.aload_n 2, 1) := by decide +kernel
theorem dL_law_610 : decode cL_law 610 = .ok (.aload_n 0, 1) := by decide +kernel
theorem dL_law_611 : decode cL_law 611 = .ok (.iload_n 3, 1) := by decide +kernel
theorem dL_law_612 : decode cL_law 612 = .ok (.iconst 1, 1) := by decide +kernel
theorem dL_law_613 : decode cL_law 613 = .ok (.iadd, 1) := by decide +kernel
theorem dL_law_614 : decode cL_law 614 = .ok (.iaload, 1) := by decide +kernel
theorem dL_law_615 : decode cL_law 615 = .ok (.invokevirtual 67, 3) := by decide +kernel
theorem dL_law_618 : decode cL_law 618 = .ok (.if_icmp .eq 382, 3) := by decide +kernel
theorem dL_law_621 : decode cL_law 621 = .ok (.iconst 0, 1) := by decide +kernel
theorem dL_law_622 : decode cL_law 622 = .ok (.ireturn, 1) := by decide +kernel
theorem dL_law_623 : decode cL_law 623 = .ok (.aload_n 1, 1) := by decide +kernel
theorem dL_law_624 : decode cL_law 624 = .ok (.invokevirtual 68, 3) := by decide +kernel
theorem dL_law_627 : decode cL_law 627 = .ok (.aload_n 2, 1) := by decide +kernel
theorem dL_law_628 : decode cL_law 628 = .ok (.invokevirtual 72, 3) := by decide +kernel
theorem dL_law_631 : decode cL_law 631 = .ok (.if_icmp .eq 369, 3) := by decide +kernel
theorem dL_law_634 : decode cL_law 634 = .ok (.iconst 0, 1) := by decide +kernel
theorem dL_law_635 : decode cL_law 635 = .ok (.ireturn, 1) := by decide +kernel
theorem dL_law_636 : decode cL_law 636 = .ok (.aload_n 1, 1) := by decide +kernel
theorem dL_law_637 : decode cL_law 637 = .ok (.aload_n 0, 1) := by decide +kernel
theorem dL_law_638 : decode cL_law 638 = .ok (.iload_n 3, 1) := by decide +kernel
theorem dL_law_639 : decode cL_law 639 = .ok (.iconst 1, 1) := by decide +kernel
theorem dL_law_640 : decode cL_law 640 = .ok (.iadd, 1) := by decide +kernel
theorem dL_law_641 : decode cL_law 641 = .ok (.iaload, 1) := by decide +kernel
theorem dL_law_642 : decode cL_law 642 = .ok (.aload_n 0, 1) := by decide +kernel
theorem dL_law_643 : decode cL_law 643 = .ok (.iload_n 3, 1) := by decide +kernel
theorem dL_law_644 : decode cL_law 644 = .ok (.iconst 2, 1) := by decide +kernel
theorem dL_law_645 : decode cL_law 645 = .ok (.iadd, 1) := by decide +kernel
theorem dL_law_646 : decode cL_law 646 = .ok (.iaload, 1) := by decide +kernel
theorem dL_law_647 : decode cL_law 647 = .ok (.aload_n 0, 1) := by decide +kernel
theorem dL_law_648 : decode cL_law 648 = .ok (.iload_n 3, 1) := by decide +kernel
theorem dL_law_649 : decode cL_law 649 = .ok (.iconst 3, 1) := by decide +kernel
theorem dL_law_650 : decode cL_law 650 = .ok (.iadd, 1) := by decide +kernel
theorem dL_law_651 : decode cL_law 651 = .ok (.iaload, 1) := by decide +kernel
theorem dL_law_652 : decode cL_law 652 = .ok (.invokevirtual 73, 3) := by decide +kernel
theorem dL_law_655 : decode cL_law 655 = .ok (.aload_n 2, 1) := by decide +kernel
theorem dL_law_656 : decode cL_law 656 = .ok (.aload_n 0, 1) := by decide +kernel
theorem dL_law_657 : decode cL_law 657 = .ok (.iload_n 3, 1) := by decide +kernel
theorem dL_law_658 : decode cL_law 658 = .ok (.iconst 1, 1) := by decide +kernel
theorem dL_law_659 : decode cL_law 659 = .ok (.iadd, 1) := by decide +kernel
theorem dL_law_660 : decode cL_law 660 = .ok (.iaload, 1) := by decide +kernel
theorem dL_law_661 : decode cL_law 661 = .ok (.aload_n 0, 1) := by decide +kernel
theorem dL_law_662 : decode cL_law 662 = .ok (.iload_n 3, 1) := by decide +kernel
theorem dL_law_663 : decode cL_law 663 = .ok (.iconst 2, 1) := by decide +kernel
theorem dL_law_664 : decode cL_law 664 = .ok (.iadd, 1) := by decide +kernel
theorem dL_law_665 : decode cL_law 665 = .ok (.iaload, 1) := by decide +kernel
theorem dL_law_666 : decode cL_law 666 = .ok (.aload_n 0, 1) := by decide +kernel
theorem dL_law_667 : decode cL_law 667 = .ok (.iload_n 3, 1) := by decide +kernel
theorem dL_law_668 : decode cL_law 668 = .ok (.iconst 3, 1) := by decide +kernel
theorem dL_law_669 : decode cL_law 669 = .ok (.iadd, 1) := by decide +kernel
theorem dL_law_670 : decode cL_law 670 = .ok (.iaload, 1) := by decide +kernel
theorem dL_law_671 : decode cL_law 671 = .ok (.invokevirtual 76, 3) := by decide +kernel
theorem dL_law_674 : decode cL_law 674 = .ok (.if_icmp .eq 326, 3) := by decide +kernel
theorem dL_law_677 : decode cL_law 677 = .ok (.iconst 0, 1) := by decide +kernel
theorem dL_law_678 : decode cL_law 678 = .ok (.ireturn, 1) := by decide +kernel
theorem dL_law_679 : decode cL_law 679 = .ok (.aload_n 1, 1) := by decide +kernel
theorem dL_law_680 : decode cL_law 680 = .ok (.aload_n 0, 1) := by decide +kernel
theorem dL_law_681 : decode cL_law 681 = .ok (.iload_n 3, 1) := by decide +kernel
theorem dL_law_682 : decode cL_law 682 = .ok (.iconst 1, 1) := by decide +kernel
theorem dL_law_683 : decode cL_law 683 = .ok (.iadd, 1) := by decide +kernel
theorem dL_law_684 : decode cL_law 684 = .ok (.iaload, 1) := by decide +kernel
theorem dL_law_685 : decode cL_law 685 = .ok (.aload_n 0, 1) := by decide +kernel
theorem dL_law_686 : decode cL_law 686 = .ok (.iload_n 3, 1) := by decide +kernel
theorem dL_law_687 : decode cL_law 687 = .ok (.iconst 2, 1) := by decide +kernel
theorem dL_law_688 : decode cL_law 688 = .ok (.iadd, 1) := by decide +kernel
theorem dL_law_689 : decode cL_law 689 = .ok (.iaload, 1) := by decide +kernel
theorem dL_law_690 : decode cL_law 690 = .ok (.invokevirtual 77, 3) := by decide +kernel
theorem dL_law_693 : decode cL_law 693 = .ok (.aload_n 2, 1) := by decide +kernel
theorem dL_law_694 : decode cL_law 694 = .ok (.aload_n 0, 1) := by decide +kernel
theorem dL_law_695 : decode cL_law 695 = .ok (.iload_n 3, 1) := by decide +kernel
theorem dL_law_696 : decode cL_law 696 = .ok (.iconst 1, 1) := by decide +kernel
theorem dL_law_697 : decode cL_law 697 = .ok (.iadd, 1) := by decide +kernel
theorem dL_law_698 : decode cL_law 698 = .ok (.iaload, 1) := by decide +kernel
theorem dL_law_699 : decode cL_law 699 = .ok (.aload_n 0, 1) := by decide +kernel
theorem dL_law_700 : decode cL_law 700 = .ok (.iload_n 3, 1) := by decide +kernel
theorem dL_law_701 : decode cL_law 701 = .ok (.iconst 2, 1) := by decide +kernel
theorem dL_law_702 : decode cL_law 702 = .ok (.iadd, 1) := by decide +kernel
theorem dL_law_703 : decode cL_law 703 = .ok (.iaload, 1) := by decide +kernel
theorem dL_law_704 : decode cL_law 704 = .ok (.invokevirtual 80, 3) := by decide +kernel
theorem dL_law_707 : decode cL_law 707 = .ok (.if_icmp .eq 293, 3) := by decide +kernel
theorem dL_law_710 : decode cL_law 710 = .ok (.iconst 0, 1) := by decide +kernel
theorem dL_law_711 : decode cL_law 711 = .ok (.ireturn, 1) := by decide +kernel
theorem dL_law_712 : decode cL_law 712 = .ok (.aload_n 1, 1) := by decide +kernel
theorem dL_law_713 : decode cL_law 713 = .ok (.aload_n 0, 1) := by decide +kernel
theorem dL_law_714 : decode cL_law 714 = .ok (.iload_n 3, 1) := by decide +kernel
theorem dL_law_715 : decode cL_law 715 = .ok (.iconst 1, 1) := by decide +kernel
theorem dL_law_716 : decode cL_law 716 = .ok (.iadd, 1) := by decide +kernel
theorem dL_law_717 : decode cL_law 717 = .ok (.iaload, 1) := by decide +kernel
theorem dL_law_718 : decode cL_law 718 = .ok (.invokevirtual 81, 3) := by decide +kernel
theorem dL_law_721 : decode cL_law 721 = .ok (.aload_n 2, 1) := by decide +kernel
theorem dL_law_722 : decode cL_law 722 = .ok (.aload_n 0, 1) := by decide +kernel
theorem dL_law_723 : decode cL_law 723 = .ok (.iload_n 3, 1) := by decide +kernel
theorem dL_law_724 : decode cL_law 724 = .ok (.iconst 1, 1) := by decide +kernel
theorem dL_law_725 : decode cL_law 725 = .ok (.iadd, 1) := by decide +kernel
theorem dL_law_726 : decode cL_law 726 = .ok (.iaload, 1) := by decide +kernel
theorem dL_law_727 : decode cL_law 727 = .ok (.invokevirtual 84, 3) := by decide +kernel
theorem dL_law_730 : decode cL_law 730 = .ok (.if_icmp .eq 270, 3) := by decide +kernel
theorem dL_law_733 : decode cL_law 733 = .ok (.iconst 0, 1) := by decide +kernel
theorem dL_law_734 : decode cL_law 734 = .ok (.ireturn, 1) := by decide +kernel
theorem dL_law_735 : decode cL_law 735 = .ok (.aload_n 1, 1) := by decide +kernel
theorem dL_law_736 : decode cL_law 736 = .ok (.aload_n 0, 1) := by decide +kernel
theorem dL_law_737 : decode cL_law 737 = .ok (.iload_n 3, 1) := by decide +kernel
theorem dL_law_738 : decode cL_law 738 = .ok (.iconst 1, 1) := by decide +kernel
theorem dL_law_739 : decode cL_law 739 = .ok (.iadd, 1) := by decide +kernel
theorem dL_law_740 : decode cL_law 740 = .ok (.iaload, 1) := by decide +kernel
theorem dL_law_741 : decode cL_law 741 = .ok (.aload_n 0, 1) := by decide +kernel
theorem dL_law_742 : decode cL_law 742 = .ok (.iload_n 3, 1) := by decide +kernel
theorem dL_law_743 : decode cL_law 743 = .ok (.iconst 2, 1) := by decide +kernel
theorem dL_law_744 : decode cL_law 744 = .ok (.iadd, 1) := by decide +kernel
theorem dL_law_745 : decode cL_law 745 = .ok (.iaload, 1) := by decide +kernel
theorem dL_law_746 : decode cL_law 746 = .ok (.invokevirtual 85, 3) := by decide +kernel
theorem dL_law_749 : decode cL_law 749 = .ok (.aload_n 2, 1) := by decide +kernel
theorem dL_law_750 : decode cL_law 750 = .ok (.aload_n 0, 1) := by decide +kernel
theorem dL_law_751 : decode cL_law 751 = .ok (.iload_n 3, 1) := by decide +kernel
theorem dL_law_752 : decode cL_law 752 = .ok (.iconst 1, 1) := by decide +kernel
theorem dL_law_753 : decode cL_law 753 = .ok (.iadd, 1) := by decide +kernel
theorem dL_law_754 : decode cL_law 754 = .ok (.iaload, 1) := by decide +kernel
theorem dL_law_755 : decode cL_law 755 = .ok (.aload_n 0, 1) := by decide +kernel
theorem dL_law_756 : decode cL_law 756 = .ok (.iload_n 3, 1) := by decide +kernel
theorem dL_law_757 : decode cL_law 757 = .ok (.iconst 2, 1) := by decide +kernel
theorem dL_law_758 : decode cL_law 758 = .ok (.iadd, 1) := by decide +kernel
theorem dL_law_759 : decode cL_law 759 = .ok (.iaload, 1) := by decide +kernel
theorem dL_law_760 : decode cL_law 760 = .ok (.invokevirtual 88, 3) := by decide +kernel
theorem dL_law_763 : decode cL_law 763 = .ok (.if_icmp .eq 237, 3) := by decide +kernel
theorem dL_law_766 : decode cL_law 766 = .ok (.iconst 0, 1) := by decide +kernel
theorem dL_law_767 : decode cL_law 767 = .ok (.ireturn, 1) := by decide +kernel
theorem dL_law_768 : decode cL_law 768 = .ok (.aload_n 1, 1) := by decide +kernel
theorem dL_law_769 : decode cL_law 769 = .ok (.aload_n 0, 1) := by decide +kernel
theorem dL_law_770 : decode cL_law 770 = .ok (.iload_n 3, 1) := by decide +kernel
theorem dL_law_771 : decode cL_law 771 = .ok (.iconst 1, 1) := by decide +kernel
theorem dL_law_772 : decode cL_law 772 = .ok (.iadd, 1) := by decide +kernel
theorem dL_law_773 : decode cL_law 773 = .ok (.iaload, 1) := by decide +kernel
theorem dL_law_774 : decode cL_law 774 = .ok (.invokevirtual 89, 3) := by decide +kernel
theorem dL_law_777 : decode cL_law 777 = .ok (.aload_n 2, 1) := by decide +kernel
theorem dL_law_778 : decode cL_law 778 = .ok (.aload_n 0, 1) := by decide +kernel
theorem dL_law_779 : decode cL_law 779 = .ok (.iload_n 3, 1) := by decide +kernel
theorem dL_law_780 : decode cL_law 780 = .ok (.iconst 1, 1) := by decide +kernel
theorem dL_law_781 : decode cL_law 781 = .ok (.iadd, 1) := by decide +kernel
theorem dL_law_782 : decode cL_law 782 = .ok (.iaload, 1) := by decide +kernel
theorem dL_law_783 : decode cL_law 783 = .ok (.invokevirtual 92, 3) := by decide +kernel
theorem dL_law_786 : decode cL_law 786 = .ok (.if_icmp .eq 214, 3) := by decide +kernel
theorem dL_law_789 : decode cL_law 789 = .ok (.iconst 0, 1) := by decide +kernel
theorem dL_law_790 : decode cL_law 790 = .ok (.ireturn, 1) := by decide +kernel
theorem dL_law_791 : decode cL_law 791 = .ok (.aload_n 1, 1) := by decide +kernel
theorem dL_law_792 : decode cL_law 792 = .ok (.aload_n 0, 1) := by decide +kernel
theorem dL_law_793 : decode cL_law 793 = .ok (.iload_n 3, 1) := by decide +kernel
theorem dL_law_794 : decode cL_law 794 = .ok (.iconst 1, 1) := by decide +kernel
theorem dL_law_795 : decode cL_law 795 = .ok (.iadd, 1) := by decide +kernel
theorem dL_law_796 : decode cL_law 796 = .ok (.iaload, 1) := by decide +kernel
theorem dL_law_797 : decode cL_law 797 = .ok (.invokevirtual 93, 3) := by decide +kernel
theorem dL_law_800 : decode cL_law 800 = .ok (.aload_n 2, 1) := by decide +kernel
theorem dL_law_801 : decode cL_law 801 = .ok (.aload_n 0, 1) := by decide +kernel
theorem dL_law_802 : decode cL_law 802 = .ok (.iload_n 3, 1) := by decide +kernel
theorem dL_law_803 : decode cL_law 803 = .ok (.iconst 1, 1) := by decide +kernel
theorem dL_law_804 : decode cL_law 804 = .ok (.iadd, 1) := by decide +kernel
theorem dL_law_805 : decode cL_law 805 = .ok (.iaload, 1) := by decide +kernel
theorem dL_law_806 : decode cL_law 806 = .ok (.invokevirtual 96, 3) := by decide +kernel
theorem dL_law_809 : decode cL_law 809 = .ok (.if_icmp .eq 191, 3) := by decide +kernel
theorem dL_law_812 : decode cL_law 812 = .ok (.iconst 0, 1) := by decide +kernel
theorem dL_law_813 : decode cL_law 813 = .ok (.ireturn, 1) := by decide +kernel
theorem dL_law_814 : decode cL_law 814 = .ok (.aload_n 1, 1) := by decide +kernel
theorem dL_law_815 : decode cL_law 815 = .ok (.invokevirtual 97, 3) := by decide +kernel
theorem dL_law_818 : decode cL_law 818 = .ok (.aload_n 2, 1) := by decide +kernel
theorem dL_law_819 : decode cL_law 819 = .ok (.invokevirtual 100, 3) := by decide +kernel
theorem dL_law_822 : decode cL_law 822 = .ok (.if_icmp .eq 178, 3) := by decide +kernel
theorem dL_law_825 : decode cL_law 825 = .ok (.iconst 0, 1) := by decide +kernel
theorem dL_law_826 : decode cL_law 826 = .ok (.ireturn, 1) := by decide +kernel
theorem dL_law_827 : decode cL_law 827 = .ok (.aload_n 1, 1) := by decide +kernel
theorem dL_law_828 : decode cL_law 828 = .ok (.aload_n 0, 1) := by decide +kernel
theorem dL_law_829 : decode cL_law 829 = .ok (.iload_n 3, 1) := by decide +kernel
theorem dL_law_830 : decode cL_law 830 = .ok (.iconst 1, 1) := by decide +kernel
theorem dL_law_831 : decode cL_law 831 = .ok (.iadd, 1) := by decide +kernel
theorem dL_law_832 : decode cL_law 832 = .ok (.iaload, 1) := by decide +kernel
theorem dL_law_833 : decode cL_law 833 = .ok (.aload_n 0, 1) := by decide +kernel
theorem dL_law_834 : decode cL_law 834 = .ok (.iload_n 3, 1) := by decide +kernel
theorem dL_law_835 : decode cL_law 835 = .ok (.iconst 2, 1) := by decide +kernel
theorem dL_law_836 : decode cL_law 836 = .ok (.iadd, 1) := by decide +kernel
theorem dL_law_837 : decode cL_law 837 = .ok (.iaload, 1) := by decide +kernel
theorem dL_law_838 : decode cL_law 838 = .ok (.aload_n 0, 1) := by decide +kernel
theorem dL_law_839 : decode cL_law 839 = .ok (.iload_n 3, 1) := by decide +kernel
theorem dL_law_840 : decode cL_law 840 = .ok (.iconst 3, 1) := by decide +kernel
theorem dL_law_841 : decode cL_law 841 = .ok (.iadd, 1) := by decide +kernel
theorem dL_law_842 : decode cL_law 842 = .ok (.iaload, 1) := by decide +kernel
theorem dL_law_843 : decode cL_law 843 = .ok (.invokevirtual 101, 3) := by decide +kernel
theorem dL_law_846 : decode cL_law 846 = .ok (.aload_n 2, 1) := by decide +kernel
theorem dL_law_847 : decode cL_law 847 = .ok (.aload_n 0, 1) := by decide +kernel
theorem dL_law_848 : decode cL_law 848 = .ok (.iload_n 3, 1) := by decide +kernel
theorem dL_law_849 : decode cL_law 849 = .ok (.iconst 1, 1) := by decide +kernel
theorem dL_law_850 : decode cL_law 850 = .ok (.iadd, 1) := by decide +kernel
theorem dL_law_851 : decode cL_law 851 = .ok (.iaload, 1) := by decide +kernel
theorem dL_law_852 : decode cL_law 852 = .ok (.aload_n 0, 1) := by decide +kernel
theorem dL_law_853 : decode cL_law 853 = .ok (.iload_n 3, 1) := by decide +kernel
theorem dL_law_854 : decode cL_law 854 = .ok (.iconst 2, 1) := by decide +kernel
theorem dL_law_855 : decode cL_law 855 = .ok (.iadd, 1) := by decide +kernel
theorem dL_law_856 : decode cL_law 856 = .ok (.iaload, 1) := by decide +kernel
theorem dL_law_857 : decode cL_law 857 = .ok (.aload_n 0, 1) := by decide +kernel
theorem dL_law_858 : decode cL_law 858 = .ok (.iload_n 3, 1) := by decide +kernel
theorem dL_law_859 : decode cL_law 859 = .ok (.iconst 3, 1) := by decide +kernel
theorem dL_law_860 : decode cL_law 860 = .ok (.iadd, 1) := by decide +kernel
theorem dL_law_861 : decode cL_law 861 = .ok (.iaload, 1) := by decide +kernel
theorem dL_law_862 : decode cL_law 862 = .ok (.invokevirtual 104, 3) := by decide +kernel
theorem dL_law_865 : decode cL_law 865 = .ok (.if_icmp .eq 135, 3) := by decide +kernel
theorem dL_law_868 : decode cL_law 868 = .ok (.iconst 0, 1) := by decide +kernel
theorem dL_law_869 : decode cL_law 869 = .ok (.ireturn, 1) := by decide +kernel
theorem dL_law_870 : decode cL_law 870 = .ok (.aload_n 1, 1) := by decide +kernel
theorem dL_law_871 : decode cL_law 871 = .ok (.aload_n 0, 1) := by decide +kernel
theorem dL_law_872 : decode cL_law 872 = .ok (.iload_n 3, 1) := by decide +kernel
theorem dL_law_873 : decode cL_law 873 = .ok (.iconst 1, 1) := by decide +kernel
theorem dL_law_874 : decode cL_law 874 = .ok (.iadd, 1) := by decide +kernel
theorem dL_law_875 : decode cL_law 875 = .ok (.iaload, 1) := by decide +kernel
theorem dL_law_876 : decode cL_law 876 = .ok (.invokevirtual 105, 3) := by decide +kernel
theorem dL_law_879 : decode cL_law 879 = .ok (.aload_n 2, 1) := by decide +kernel
theorem dL_law_880 : decode cL_law 880 = .ok (.aload_n 0, 1) := by decide +kernel
theorem dL_law_881 : decode cL_law 881 = .ok (.iload_n 3, 1) := by decide +kernel
theorem dL_law_882 : decode cL_law 882 = .ok (.iconst 1, 1) := by decide +kernel
theorem dL_law_883 : decode cL_law 883 = .ok (.iadd, 1) := by decide +kernel
theorem dL_law_884 : decode cL_law 884 = .ok (.iaload, 1) := by decide +kernel
theorem dL_law_885 : decode cL_law 885 = .ok (.invokevirtual 109, 3) := by decide +kernel
theorem dL_law_888 : decode cL_law 888 = .ok (.lcmp, 1) := by decide +kernel
theorem dL_law_889 : decode cL_law 889 = .ok (.ifCond .eq 111, 3) := by decide +kernel
theorem dL_law_892 : decode cL_law 892 = .ok (.iconst 0, 1) := by decide +kernel
theorem dL_law_893 : decode cL_law 893 = .ok (.ireturn, 1) := by decide +kernel
theorem dL_law_894 : decode cL_law 894 = .ok (.aload_n 1, 1) := by decide +kernel
theorem dL_law_895 : decode cL_law 895 = .ok (.aload_n 0, 1) := by decide +kernel
theorem dL_law_896 : decode cL_law 896 = .ok (.iload_n 3, 1) := by decide +kernel
theorem dL_law_897 : decode cL_law 897 = .ok (.iconst 1, 1) := by decide +kernel
theorem dL_law_898 : decode cL_law 898 = .ok (.iadd, 1) := by decide +kernel
theorem dL_law_899 : decode cL_law 899 = .ok (.iaload, 1) := by decide +kernel
theorem dL_law_900 : decode cL_law 900 = .ok (.invokevirtual 110, 3) := by decide +kernel
theorem dL_law_903 : decode cL_law 903 = .ok (.aload_n 2, 1) := by decide +kernel
theorem dL_law_904 : decode cL_law 904 = .ok (.aload_n 0, 1) := by decide +kernel
theorem dL_law_905 : decode cL_law 905 = .ok (.iload_n 3, 1) := by decide +kernel
theorem dL_law_906 : decode cL_law 906 = .ok (.iconst 1, 1) := by decide +kernel
theorem dL_law_907 : decode cL_law 907 = .ok (.iadd, 1) := by decide +kernel
theorem dL_law_908 : decode cL_law 908 = .ok (.iaload, 1) := by decide +kernel
theorem dL_law_909 : decode cL_law 909 = .ok (.invokevirtual 113, 3) := by decide +kernel
theorem dL_law_912 : decode cL_law 912 = .ok (.if_icmp .eq 88, 3) := by decide +kernel
theorem dL_law_915 : decode cL_law 915 = .ok (.iconst 0, 1) := by decide +kernel
theorem dL_law_916 : decode cL_law 916 = .ok (.ireturn, 1) := by decide +kernel
theorem dL_law_917 : decode cL_law 917 = .ok (.aload_n 1, 1) := by decide +kernel
theorem dL_law_918 : decode cL_law 918 = .ok (.aload_n 0, 1) := by decide +kernel
theorem dL_law_919 : decode cL_law 919 = .ok (.iload_n 3, 1) := by decide +kernel
theorem dL_law_920 : decode cL_law 920 = .ok (.iconst 1, 1) := by decide +kernel
theorem dL_law_921 : decode cL_law 921 = .ok (.iadd, 1) := by decide +kernel
theorem dL_law_922 : decode cL_law 922 = .ok (.iaload, 1) := by decide +kernel
theorem dL_law_923 : decode cL_law 923 = .ok (.invokevirtual 114, 3) := by decide +kernel
theorem dL_law_926 : decode cL_law 926 = .ok (.aload_n 2, 1) := by decide +kernel
theorem dL_law_927 : decode cL_law 927 = .ok (.aload_n 0, 1) := by decide +kernel
theorem dL_law_928 : decode cL_law 928 = .ok (.iload_n 3, 1) := by decide +kernel
theorem dL_law_929 : decode cL_law 929 = .ok (.iconst 1, 1) := by decide +kernel
theorem dL_law_930 : decode cL_law 930 = .ok (.iadd, 1) := by decide +kernel
theorem dL_law_931 : decode cL_law 931 = .ok (.iaload, 1) := by decide +kernel
theorem dL_law_932 : decode cL_law 932 = .ok (.invokevirtual 117, 3) := by decide +kernel
theorem dL_law_935 : decode cL_law 935 = .ok (.if_icmp .eq 65, 3) := by decide +kernel
theorem dL_law_938 : decode cL_law 938 = .ok (.iconst 0, 1) := by decide +kernel
theorem dL_law_939 : decode cL_law 939 = .ok (.ireturn, 1) := by decide +kernel
theorem dL_law_940 : decode cL_law 940 = .ok (.aload_n 1, 1) := by decide +kernel
theorem dL_law_941 : decode cL_law 941 = .ok (.aload_n 0, 1) := by decide +kernel
theorem dL_law_942 : decode cL_law 942 = .ok (.iload_n 3, 1) := by decide +kernel
theorem dL_law_943 : decode cL_law 943 = .ok (.iconst 1, 1) := by decide +kernel
theorem dL_law_944 : decode cL_law 944 = .ok (.iadd, 1) := by decide +kernel
theorem dL_law_945 : decode cL_law 945 = .ok (.iaload, 1) := by decide +kernel
theorem dL_law_946 : decode cL_law 946 = .ok (.invokevirtual 118, 3) := by decide +kernel
theorem dL_law_949 : decode cL_law 949 = .ok (.aload_n 2, 1) := by decide +kernel
theorem dL_law_950 : decode cL_law 950 = .ok (.aload_n 0, 1) := by decide +kernel
theorem dL_law_951 : decode cL_law 951 = .ok (.iload_n 3, 1) := by decide +kernel
theorem dL_law_952 : decode cL_law 952 = .ok (.iconst 1, 1) := by decide +kernel
theorem dL_law_953 : decode cL_law 953 = .ok (.iadd, 1) := by decide +kernel
theorem dL_law_954 : decode cL_law 954 = .ok (.iaload, 1) := by decide +kernel
theorem dL_law_955 : decode cL_law 955 = .ok (.invokevirtual 121, 3) := by decide +kernel
theorem dL_law_958 : decode cL_law 958 = .ok (.lcmp, 1) := by decide +kernel
theorem dL_law_959 : decode cL_law 959 = .ok (.ifCond .eq 41, 3) := by decide +kernel
theorem dL_law_962 : decode cL_law 962 = .ok (.iconst 0, 1) := by decide +kernel
theorem dL_law_963 : decode cL_law 963 = .ok (.ireturn, 1) := by decide +kernel
theorem dL_law_964 : decode cL_law 964 = .ok (.aload_n 1, 1) := by decide +kernel
theorem dL_law_965 : decode cL_law 965 = .ok (.aload_n 0, 1) := by decide +kernel
theorem dL_law_966 : decode cL_law 966 = .ok (.iload_n 3, 1) := by decide +kernel
theorem dL_law_967 : decode cL_law 967 = .ok (.iconst 1, 1) := by decide +kernel
theorem dL_law_968 : decode cL_law 968 = .ok (.iadd, 1) := by decide +kernel
theorem dL_law_969 : decode cL_law 969 = .ok (.iaload, 1) := by decide +kernel
theorem dL_law_970 : decode cL_law 970 = .ok (.invokevirtual 122, 3) := by decide +kernel
theorem dL_law_973 : decode cL_law 973 = .ok (.aload_n 2, 1) := by decide +kernel
theorem dL_law_974 : decode cL_law 974 = .ok (.aload_n 0, 1) := by decide +kernel
theorem dL_law_975 : decode cL_law 975 = .ok (.iload_n 3, 1) := by decide +kernel
theorem dL_law_976 : decode cL_law 976 = .ok (.iconst 1, 1) := by decide +kernel
theorem dL_law_977 : decode cL_law 977 = .ok (.iadd, 1) := by decide +kernel
theorem dL_law_978 : decode cL_law 978 = .ok (.iaload, 1) := by decide +kernel
theorem dL_law_979 : decode cL_law 979 = .ok (.invokevirtual 125, 3) := by decide +kernel
theorem dL_law_982 : decode cL_law 982 = .ok (.if_icmp .eq 18, 3) := by decide +kernel
theorem dL_law_985 : decode cL_law 985 = .ok (.iconst 0, 1) := by decide +kernel
theorem dL_law_986 : decode cL_law 986 = .ok (.ireturn, 1) := by decide +kernel
theorem dL_law_987 : decode cL_law 987 = .ok (.aload_n 1, 1) := by decide +kernel
theorem dL_law_988 : decode cL_law 988 = .ok (.invokevirtual 126, 3) := by decide +kernel
theorem dL_law_991 : decode cL_law 991 = .ok (.aload_n 2, 1) := by decide +kernel
theorem dL_law_992 : decode cL_law 992 = .ok (.invokevirtual 129, 3) := by decide +kernel
theorem dL_law_995 : decode cL_law 995 = .ok (.if_icmp .eq 5, 3) := by decide +kernel
theorem dL_law_998 : decode cL_law 998 = .ok (.iconst 0, 1) := by decide +kernel
theorem dL_law_999 : decode cL_law 999 = .ok (.ireturn, 1) := by decide +kernel
theorem dL_law_1000 : decode cL_law 1000 = .ok (.iinc 3 6, 3) := by decide +kernel
theorem dL_law_1003 : decode cL_law 1003 = .ok (.goto (-985), 3) := by decide +kernel
theorem dL_law_1006 : decode cL_law 1006 = .ok (.iconst 1, 1) := by decide +kernel
theorem dL_law_1007 : decode cL_law 1007 = .ok (.ireturn, 1) := by decide +kernel
end
section
/-! My own words: a store of ints and longs over a fixed graph of objects, and a judgement Z over it. Objects bear numbers; G.1 gives their addresses. -/
/-- a method: its name, its bytes, its locals, what it returns -/
abbrev Mt : Type := MethodName × ByteArray × Nat × Option FieldType
/-- the store: what each object's slot holds, ints and longs -/
abbrev Sg : Type := (Nat → Nat → Int32) × (Nat → Nat → Int64)
/-- addresses, classes, array classes, the cells that may be written, the script -/
abbrev Gx : Type := (Nat → Nat) × va_G × (Nat → ClassId) × (Nat → Prop) × Nat × (Nat → Int32)
/-- the words that are carried from method to method -/
def gtb : List Cond := lw_tbl.filter goodWord
theorem gtb_of {w : Cond} (h : w ∈ lw_tbl) (g : goodWord w = true) : w ∈ gtb := List.mem_filter.mpr ⟨h, g⟩
/-- words on private members of nest mates -/
def nstM (w : Cond) : Prop := (∃ a i x h, w = .methodLinkNest a i x h) ∨ ∃ a i b n d h, w = .fieldLinkNest a i b n d h
/-- the kind of an object: a class's number, or 12 ints, 13 longs, 14 booleans, 15 beds, 16 plants -/
def kd (o : Nat) : Nat := match Nat.ble 65 o with
  | true => 6
  | false => match Nat.ble 57 o with
    | true => 13
    | false => match Nat.ble 49 o with
      | true => 0
      | false => [10, 11, 15, 16, 1, 6, 9, 12, 9, 12, 4, 7, 12, 12, 12, 12, 12, 12, 5, 12, 12, 12, 12, 4, 3, 12, 2, 13, 13, 8, 12, 12, 12, 12, 12, 14, 12, 12, 13, 13, 12, 13, 13, 12, 13, 13, 13, 12, 14].getD o 0
/-- how long an array is -/
def ln (o : Nat) : Nat := match Nat.ble 57 o with
  | true => 100
  | false => [0, 0, 8, 40, 0, 0, 0, 16, 0, 0, 0, 0, 40, 40, 40, 40, 40, 40, 0, 780, 780, 780, 780, 0, 0, 40, 0, 40, 40, 0, 40, 40, 40, 40, 40, 40, 8, 8, 800, 100, 16, 40, 40, 40, 66, 66, 66, 40, 40].getD o 0
/-- fields of a class -/
def nfl (c : Nat) : Nat := [4, 4, 7, 3, 3, 11, 8, 8, 4, 2, 13, 40].getD c 0
/-- the type of a field: 0 int, 1 long, 2 a reference, 3 boolean -/
def fty (c k : Nat) : Nat := ([[2, 3, 0, 0], [2, 3, 0, 0], [2, 2, 3, 0, 1, 1, 1], [2, 3, 0], [0, 0, 0], [2, 2, 2, 2, 2, 3, 0, 3, 0, 0, 0], [0, 0, 0, 0, 0, 0, 0, 3], [2, 2, 2, 2, 2, 2, 3, 0], [2, 3, 1, 1], [2, 0], [2, 2, 2, 2, 2, 2, 2, 2, 2, 2, 2, 0, 0],
  [0, 2, 2, 2, 2, 2, 0, 3, 0, 0, 0, 3, 2, 2, 2, 2, 0, 2, 0, 3, 1, 1, 1, 1, 1, 1, 2, 2, 2, 0, 1, 1, 1, 2, 2, 2, 2, 2, 1, 1]].getD c []).getD k 0
/-- the object that a reference of another one means -/
def rfo (o k : Nat) : Nat := match o with
  | 0 => [2, 3, 4, 6, 8, 10, 11, 18, 24, 26, 29].getD k 0
  | 1 => [0, 31, 32, 33, 34, 35, 0, 0, 0, 0, 0, 0, 36, 37, 38, 39, 0, 40, 0, 0, 0, 0, 0, 0, 0, 0, 41, 42, 43, 0, 0, 0, 0, 44, 45, 46, 47, 48].getD k 0
  | 2 => 49 + k
  | 3 => 65 + k
  | 4 => 5
  | 6 => 7
  | 8 => 9
  | 11 => 12 + k
  | 18 => 19 + k
  | 24 => 25
  | 26 => 27 + k
  | 29 => 30
  | o => o + 8
def rv (α : Nat → Nat) : Value → Value
  | .ref a => .ref (α a)
  | v => v
def fvl (σ : Sg) (o c k : Nat) : Value := match fty c k with
  | 1 => .long (σ.2 o k)
  | 2 => .ref (rfo o k)
  | _ => .int (σ.1 o k)
def cel (G : Gx) (σ : Sg) (o : Nat) : va_E :=
  if kd o < 12 then .inr (kd o, (List.range (nfl (kd o))).map (fun k => rv G.1 (fvl σ o (kd o) k)))
  else if kd o = 13 then .inl (G.2.2.1 1, ln o, .inr (.inl (σ.2 o)))
  else if kd o < 15 then .inl (G.2.2.1 (kd o - 12), ln o, .inl (σ.1 o))
  else .inl (G.2.2.1 (kd o - 12), ln o, .inr (.inr (.inr (.inr (fun i => some (G.1 (rfo o i)))))))
def wsG (G : Gx) (σ : Sg) : va_W := (List.range 105).map (fun o => (G.1 o, cel G σ o))
def tyG (G : Gx) : List (ClassId × FieldType) := [(G.2.2.1 0, .int), (G.2.2.1 1, .long), (G.2.2.1 2, .boolean), (G.2.2.1 3, .object "FurrowField$Bed"), (G.2.2.1 4, .object "FurrowField$Plant")]
/-- IS_TOO, BODIES -/
def cIs (j : Nat) : Int32 := ([-1, 0, 0, 1, 0] : List Int32).getD j 0
def cBo (j : Nat) : Int32 := ([10, 11, 10, 12, 13, 20, 20, 21, 20, 22, 30, 30, 30, 31, 30, 40, 40, 41, 40, 42] : List Int32).getD j 0
/-- what is read and never written: 105 the script, 106 IS_TOO, 107 BODIES -/
def rol (G : Gx) (o : Nat) : Nat := match o with
  | 105 => G.2.2.2.2.1
  | 106 => 5
  | _ => 20
def roc (G : Gx) (o : Nat) : Nat → Int32 := match o with
  | 105 => G.2.2.2.2.2
  | 106 => cIs
  | _ => cBo
def Ft (G : Gx) (s : State) : Prop := (∀ w ∈ lw_tbl, nstM w → va_Nw w s) ∧ va_K G.2.1 vwCl (tyG G) s ∧ (∀ o, 105 ≤ o → o < 108 → va_T .int (G.1 o) (rol G o) (fun j => .int (roc G o j)) G.2.2.2.1 s s.heap) ∧ va_Z "FurrowField" "IS_TOO" "[I" (.ref (G.1 106)) G.2.2.2.1 s s.heap ∧ va_Z "FurrowField" "BODIES" "[I" (.ref (G.1 107)) G.2.2.2.1 s s.heap
def RH (G : Gx) (σ : Sg) (H0 H : Heap) (locs : List Loc) : Prop := va_P G.2.1 vwCl (wsG G σ) H ∧ va_D G.2.2.2.1 (wsG G σ) ∧ va_S G.2.2.2.1 H0 H locs
/-- how a method ends -/
def Rt (M : Mt) (v : Option Value) (pc : Nat) : Prop := match v with
  | none => decode M.2.1 pc = .ok (.return_, 1) ∧ M.2.2.2 = none
  | some (.int x) => decode M.2.1 pc = .ok (.ireturn, 1) ∧ ∃ ty, M.2.2.2 = some ty ∧ narrow ty (.int x) = .int x
  | some (.long _) => decode M.2.1 pc = .ok (.lreturn, 1) ∧ M.2.2.2 = some .long
  | some (.ref _) => decode M.2.1 pc = .ok (.areturn, 1) ∧ ∃ ty, M.2.2.2 = some ty ∧ ((∃ n, ty = .object n) ∨ ∃ t, ty = .array t)
  | _ => False
def Cx (l : Launch) (G : Gx) (M : Mt) (d : Nat) (Q : Option Value → Sg → Prop) (p : Program) (e : Env) (R : Room) (s : State) (m : MethodId) (args : Array Value) (below : List Frame) (meth : Method) (c : Code) (cells slots : Nat) (Qf : State → Prop) : Prop :=
  p.tables.exec = Jvm.exec ∧ c.code = M.2.1 ∧ c.maxLocals = M.2.2.1 ∧ s.vm.findClass M.1.cls = some m.cls ∧ (∀ w ∈ gtb, w.before args s = true) ∧ Ft G s ∧ d ≤ R.frames ∧ 64 * d ≤ R.locals ∧ cells ≤ R.cells ∧ slots ≤ R.slots ∧
  ∀ (pc : Nat) (v : Option Value) (σ : Sg) (H : Heap) (locs : List Loc) (ls : Array Slot), Q v σ → RH G σ s.heap H locs → Rt M v pc → W p l e R s m args below meth c H locs cells slots Qf (F0 m pc ls ((v.map (rv G.1)).toList))
/-- the locals that are known -/
abbrev Lc : Type := List (Option Value)
def lhas (α : Nat → Nat) (L : Lc) (nL : Nat) (ls : Array Slot) : Prop := ls.size = nL ∧ lv_wf ls ∧ ∀ (i : Nat) (v : Value), L[i]? = some (some v) → ls[i]? = some (.val (rv α v))
/-- from the frame at pc with these locals, this stack and this store the method comes to its end with Q -/
def Z (l : Launch) (G : Gx) (M : Mt) (d : Nat) (pc : Nat) (L : Lc) (st : List Value) (σ : Sg) (Q : Option Value → Sg → Prop) : Prop :=
  ∀ (p : Program) (e : Env) (R : Room) (s : State) (m : MethodId) (args : Array Value) (below : List Frame) (meth : Method) (c : Code) (H : Heap) (locs : List Loc) (cells slots : Nat) (Qf : State → Prop) (ls : Array Slot),
    Cx l G M d Q p e R s m args below meth c cells slots Qf → RH G σ s.heap H locs → lhas G.1 L M.2.2.1 ls → W p l e R s m args below meth c H locs cells slots Qf (F0 m pc ls (st.map (rv G.1)))
theorem rv_cat (α : Nat → Nat) (v : Value) : (rv α v).category = v.category := by cases v <;> rfl
theorem rv_cats (α : Nat → Nat) (st : List Value) : (((st.map (rv α)).map fun v => v.category).sum) = ((st.map fun v => v.category).sum) := by
  rw [List.map_map]
  congr 1
  exact List.map_congr_left (fun v _ => rv_cat α v)
def lst (α : Nat → Nat) (L : Lc) : List (Nat × Value) := (List.range L.length).filterMap (fun i => match L[i]? with
  | some (some v) => some (i, rv α v)
  | _ => none)
theorem lst_mem {α : Nat → Nat} {L : Lc} {q : Nat × Value} : q ∈ lst α L ↔ ∃ v, L[q.1]? = some (some v) ∧ q.2 = rv α v := by
  constructor
  · intro h
    obtain ⟨i, -, hi⟩ := List.mem_filterMap.mp h
    cases hL : L[i]? with
    | none => rw [hL] at hi; cases hi
    | some w =>
      rw [hL] at hi
      cases w with
      | none => cases hi
      | some v => cases hi; exact ⟨v, hL, rfl⟩
  · rintro ⟨v, h1, h2⟩
    refine List.mem_filterMap.mpr ⟨q.1, List.mem_range.mpr (List.getElem?_eq_some_iff.mp h1).1, ?_⟩
    rw [h1]
    show some (q.1, rv α v) = some q
    rw [← h2]
theorem lhas.to {α : Nat → Nat} {L : Lc} {nL : Nat} {ls : Array Slot} (h : lhas α L nL ls) : lv_has ls nL (lst α L) := ⟨h.1, h.2.1, fun q hq => by
  obtain ⟨v, h1, h2⟩ := lst_mem.mp hq
  rw [h2]
  exact h.2.2 q.1 v h1⟩
theorem lhas.of {α : Nat → Nat} {L : Lc} {nL : Nat} {ls : Array Slot} (h : lv_has ls nL (lst α L)) : lhas α L nL ls := ⟨h.1, h.2.1, fun i v hv => h.2.2 (i, rv α v) (lst_mem.mpr ⟨v, hv, rfl⟩)⟩
/-- no long stands just ahead of place i -/
def okI (L : Lc) (i : Nat) : Bool := match i with
  | 0 => true
  | j + 1 => match L[j]? with
    | some (some v) => Nat.ble v.category 1
    | _ => true
theorem okI_use {L : Lc} {i j : Nat} {v : Value} (h : okI L i = true) (hj : j + 1 = i) (hv : L[j]? = some (some v)) : ¬ v.category = 2 := by
  subst hj
  unfold okI at h
  simp only [hv] at h
  have := Nat.le_of_ble_eq_true h
  omega
def setI (L : Lc) (i : Nat) (v : Value) : Lc := L.set i (some v)
def setL (L : Lc) (i : Nat) (v : Value) : Lc := (L.set i (some v)).set (i + 1) none
theorem setI_sub {α : Nat → Nat} {L : Lc} {i : Nat} {v : Value} (hok : okI L i = true) : ∀ q ∈ lst α (setI L i v), q ∈ (i, rv α v) :: (lst α L).filter (fun q => !(q.1 == i) && !(q.1 + 1 == i && q.2.category == 2)) := by
  intro q hq
  obtain ⟨w, h1, h2⟩ := lst_mem.mp hq
  unfold setI at h1
  by_cases hi : q.1 = i
  · rw [hi, List.getElem?_set] at h1
    simp only [if_true] at h1
    split at h1
    · cases h1
      have : q = (i, rv α v) := Prod.ext hi h2
      rw [this]; exact List.mem_cons_self
    · cases h1
  · rw [List.getElem?_set_ne (fun e => hi e.symm)] at h1
    refine List.mem_cons_of_mem _ (List.mem_filter.mpr ⟨lst_mem.mpr ⟨w, h1, h2⟩, ?_⟩)
    have hc : ¬ (q.1 + 1 = i ∧ q.2.category = 2) := fun ⟨a, b⟩ => okI_use hok a h1 (by rw [h2, rv_cat] at b; exact b)
    simp only [Bool.and_eq_true, Bool.not_eq_true', beq_eq_false_iff_ne, ne_eq, hi, not_false_eq_true, true_and, Bool.and_eq_false_imp, beq_iff_eq]
    intro a b
    exact hc ⟨a, b⟩
theorem setL_sub {α : Nat → Nat} {L : Lc} {i : Nat} {v : Value} (hok : okI L i = true) : ∀ q ∈ lst α (setL L i v), q ∈ (i, rv α v) :: (lst α L).filter (fun q => !(q.1 == i) && (!(q.1 == i + 1) && !(q.1 + 1 == i && q.2.category == 2))) := by
  intro q hq
  obtain ⟨w, h1, h2⟩ := lst_mem.mp hq
  unfold setL at h1
  by_cases hi1 : q.1 = i + 1
  · rw [hi1, List.getElem?_set] at h1
    simp only [if_true] at h1
    split at h1 <;> cases h1
  rw [List.getElem?_set_ne (fun e => hi1 e.symm)] at h1
  by_cases hi : q.1 = i
  · rw [hi, List.getElem?_set] at h1
    simp only [if_true] at h1
    split at h1
    · cases h1
      have : q = (i, rv α v) := Prod.ext hi h2
      rw [this]; exact List.mem_cons_self
    · cases h1
  · rw [List.getElem?_set_ne (fun e => hi e.symm)] at h1
    refine List.mem_cons_of_mem _ (List.mem_filter.mpr ⟨lst_mem.mpr ⟨w, h1, h2⟩, ?_⟩)
    have hc : ¬ (q.1 + 1 = i ∧ q.2.category = 2) := fun ⟨a, b⟩ => okI_use hok a h1 (by rw [h2, rv_cat] at b; exact b)
    simp only [Bool.and_eq_true, Bool.not_eq_true', beq_eq_false_iff_ne, ne_eq, hi, hi1, not_false_eq_true, true_and, Bool.and_eq_false_imp, beq_iff_eq]
    intro a b
    exact hc ⟨a, b⟩
theorem lv_has_sub {ls : Array Slot} {nL : Nat} {l l' : List (Nat × Value)} (h : lv_has ls nL l) (hs : ∀ q ∈ l', q ∈ l) : lv_has ls nL l' := ⟨h.1, h.2.1, fun q hq => h.2.2 q (hs q hq)⟩
/-- fewer known locals -/
def lsub : Lc → Lc → Prop
  | [], _ => True
  | none :: r, [] => lsub r []
  | none :: r, _ :: t => lsub r t
  | some _ :: _, [] => False
  | some v :: r, w :: t => w = some v ∧ lsub r t
theorem lsub_get : ∀ (L' L : Lc), lsub L' L → ∀ (i : Nat) (v : Value), L'[i]? = some (some v) → L[i]? = some (some v)
  | [], _, _, i, v, h => by simp at h
  | none :: r, [], hs, i, v, h => by
    cases i with
    | zero => simp at h
    | succ i => have := lsub_get r [] hs i v (by simpa using h); simp at this
  | none :: r, _ :: t, hs, i, v, h => by
    cases i with
    | zero => simp at h
    | succ i => simpa using lsub_get r t hs i v (by simpa using h)
  | some w :: r, x :: t, hs, i, v, h => by
    obtain ⟨h1, h2⟩ := hs
    cases i with
    | zero => simp at h; subst h; subst h1; rfl
    | succ i => simpa using lsub_get r t h2 i v (by simpa using h)
theorem z_sub {l : Launch} {G : Gx} {M : Mt} {d pc : Nat} {L L' : Lc} {st : List Value} {σ : Sg} {Q : Option Value → Sg → Prop} (hs : lsub L' L) (k : Z l G M d pc L' st σ Q) : Z l G M d pc L st σ Q := by
  intro p e R s m args below meth c H locs cells slots Qf ls C hR hl
  exact k p e R s m args below meth c H locs cells slots Qf ls C hR ⟨hl.1, hl.2.1, fun i v h => hl.2.2 i v (lsub_get _ _ hs i v h)⟩
end
section
section ZO
variable {l : Launch} {G : Gx} {M : Mt} {d pc : Nat} {L : Lc} {st : List Value} {σ : Sg} {Q : Option Value → Sg → Prop}
theorem z_iconst {n : Int} {v : Int32} (hd : decode M.2.1 pc = .ok (.iconst n, 1)) (hv : Int32.ofInt n = v := by rfl) (k : Z l G M d (pc + 1) L (.int v :: st) σ Q) : Z l G M d pc L (st) σ Q := by
  intro p e R s m args below meth c H locs cells slots Qf ls C hR hl
  exact lv_iconst C.1 C.2.1 hd hv (k p e R s m args below meth c H locs cells slots Qf ls C hR hl)
theorem z_bipush {n : Int} {v : Int32} (hd : decode M.2.1 pc = .ok (.bipush n, 2)) (hv : (Int8.ofInt n).toInt32 = v := by rfl) (k : Z l G M d (pc + 2) L (.int v :: st) σ Q) : Z l G M d pc L (st) σ Q := by
  intro p e R s m args below meth c H locs cells slots Qf ls C hR hl
  exact lv_bipush C.1 C.2.1 hd hv (k p e R s m args below meth c H locs cells slots Qf ls C hR hl)
theorem z_sipush {n : Int} {v : Int32} (hd : decode M.2.1 pc = .ok (.sipush n, 3)) (hv : (Int16.ofInt n).toInt32 = v := by rfl) (k : Z l G M d (pc + 3) L (.int v :: st) σ Q) : Z l G M d pc L (st) σ Q := by
  intro p e R s m args below meth c H locs cells slots Qf ls C hR hl
  exact lv_sipush C.1 C.2.1 hd hv (k p e R s m args below meth c H locs cells slots Qf ls C hR hl)
theorem z_lconst {n : Fin 2} {v : Int64} (hd : decode M.2.1 pc = .ok (.lconst n, 1)) (hv : Int64.ofNat (n : Nat) = v := by rfl) (k : Z l G M d (pc + 1) L (.long v :: st) σ Q) : Z l G M d pc L (st) σ Q := by
  intro p e R s m args below meth c H locs cells slots Qf ls C hR hl
  exact lv_lconst C.1 C.2.1 hd hv (k p e R s m args below meth c H locs cells slots Qf ls C hR hl)
theorem z_ldc {n : Nat} {v : Int32} (hd : decode M.2.1 pc = .ok (.ldc n, 2)) (hw : Cond.constant M.1.cls n v ∈ lw_tbl) (k : Z l G M d (pc + 2) L (.int v :: st) σ Q) : Z l G M d pc L (st) σ Q := by
  intro p e R s m args below meth c H locs cells slots Qf ls C hR hl
  exact lv_ldc C.1 C.2.1 C.2.2.2.1 (C.2.2.2.2.1 _ (gtb_of hw rfl)) hd (k p e R s m args below meth c H locs cells slots Qf ls C hR hl)
theorem z_ldcw {n : Nat} {v : Int32} (hd : decode M.2.1 pc = .ok (.ldc_w n, 3)) (hw : Cond.constant M.1.cls n v ∈ lw_tbl) (k : Z l G M d (pc + 3) L (.int v :: st) σ Q) : Z l G M d pc L (st) σ Q := by
  intro p e R s m args below meth c H locs cells slots Qf ls C hR hl
  exact lv_ldcw C.1 C.2.1 C.2.2.2.1 (C.2.2.2.2.1 _ (gtb_of hw rfl)) hd (k p e R s m args below meth c H locs cells slots Qf ls C hR hl)
theorem z_ldc2 {n : Nat} {v : Int64} (hd : decode M.2.1 pc = .ok (.ldc2_w n, 3)) (hw : Cond.constantLong M.1.cls n v ∈ lw_tbl) (k : Z l G M d (pc + 3) L (.long v :: st) σ Q) : Z l G M d pc L (st) σ Q := by
  intro p e R s m args below meth c H locs cells slots Qf ls C hR hl
  exact lv_ldc2 C.1 C.2.1 C.2.2.2.1 (C.2.2.2.2.1 _ (gtb_of hw rfl)) hd (k p e R s m args below meth c H locs cells slots Qf ls C hR hl)
theorem z_iload_n {n : Fin 4} {x : Int32} (hd : decode M.2.1 pc = .ok (.iload_n n, 1)) (hv : L[(n : Nat)]? = some (some (.int x))) (k : Z l G M d (pc + 1) L (.int x :: st) σ Q) : Z l G M d pc L (st) σ Q := by
  intro p e R s m args below meth c H locs cells slots Qf ls C hR hl
  exact lv_iload_n C.1 C.2.1 hd rfl (hl.2.2 _ _ hv) (k p e R s m args below meth c H locs cells slots Qf ls C hR hl)
theorem z_iload {n : Nat} {x : Int32} (hd : decode M.2.1 pc = .ok (.iload n, 2)) (hv : L[n]? = some (some (.int x))) (k : Z l G M d (pc + 2) L (.int x :: st) σ Q) : Z l G M d pc L (st) σ Q := by
  intro p e R s m args below meth c H locs cells slots Qf ls C hR hl
  exact lv_iload C.1 C.2.1 hd (hl.2.2 _ _ hv) (k p e R s m args below meth c H locs cells slots Qf ls C hR hl)
theorem z_lload_n {n : Fin 4} {x : Int64} (hd : decode M.2.1 pc = .ok (.lload_n n, 1)) (hv : L[(n : Nat)]? = some (some (.long x))) (k : Z l G M d (pc + 1) L (.long x :: st) σ Q) : Z l G M d pc L (st) σ Q := by
  intro p e R s m args below meth c H locs cells slots Qf ls C hR hl
  exact lv_lload_n C.1 C.2.1 hd rfl (hl.2.2 _ _ hv) (k p e R s m args below meth c H locs cells slots Qf ls C hR hl)
theorem z_lload {n : Nat} {x : Int64} (hd : decode M.2.1 pc = .ok (.lload n, 2)) (hv : L[n]? = some (some (.long x))) (k : Z l G M d (pc + 2) L (.long x :: st) σ Q) : Z l G M d pc L (st) σ Q := by
  intro p e R s m args below meth c H locs cells slots Qf ls C hR hl
  exact lv_lload C.1 C.2.1 hd (hl.2.2 _ _ hv) (k p e R s m args below meth c H locs cells slots Qf ls C hR hl)
theorem z_aload_n {n : Fin 4} {x : Nat} (hd : decode M.2.1 pc = .ok (.aload_n n, 1)) (hv : L[(n : Nat)]? = some (some (.ref x))) (k : Z l G M d (pc + 1) L (.ref x :: st) σ Q) : Z l G M d pc L (st) σ Q := by
  intro p e R s m args below meth c H locs cells slots Qf ls C hR hl
  exact lv_aload_n C.1 C.2.1 hd rfl (hl.2.2 _ _ hv) (k p e R s m args below meth c H locs cells slots Qf ls C hR hl)
theorem z_aload {n : Nat} {x : Nat} (hd : decode M.2.1 pc = .ok (.aload n, 2)) (hv : L[n]? = some (some (.ref x))) (k : Z l G M d (pc + 2) L (.ref x :: st) σ Q) : Z l G M d pc L (st) σ Q := by
  intro p e R s m args below meth c H locs cells slots Qf ls C hR hl
  exact lv_aload C.1 C.2.1 hd (hl.2.2 _ _ hv) (k p e R s m args below meth c H locs cells slots Qf ls C hR hl)
theorem z_istore {n : Nat} {x : Int32} {L' : Lc} (hd : decode M.2.1 pc = .ok (.istore n, 2)) (hn : Nat.blt (n) M.2.2.1 = true) (hok : okI L n = true) (hL : setI L n (.int x) = L') (k : Z l G M d (pc + 2) L' st σ Q) : Z l G M d pc L (.int x :: st) σ Q := by
  intro p e R s m args below meth c H locs cells slots Qf ls C hR hl
  refine lv_istore C.1 C.2.1 hd hl.to (Nat.le_of_ble_eq_true hn) rfl (fun ls1 hl1 => ?_)
  exact k p e R s m args below meth c H locs cells slots Qf ls1 C hR (by rw [← hL]; exact lhas.of (lv_has_sub hl1 (setI_sub hok)))
theorem z_istore_n {n : Fin 4} {x : Int32} {L' : Lc} (hd : decode M.2.1 pc = .ok (.istore_n n, 1)) (hn : Nat.blt ((n : Nat)) M.2.2.1 = true) (hok : okI L n = true) (hL : setI L n (.int x) = L') (k : Z l G M d (pc + 1) L' st σ Q) : Z l G M d pc L (.int x :: st) σ Q := by
  intro p e R s m args below meth c H locs cells slots Qf ls C hR hl
  refine lv_istore_n C.1 C.2.1 hd rfl hl.to (Nat.le_of_ble_eq_true hn) rfl (fun ls1 hl1 => ?_)
  exact k p e R s m args below meth c H locs cells slots Qf ls1 C hR (by rw [← hL]; exact lhas.of (lv_has_sub hl1 (setI_sub hok)))
theorem z_lstore {n : Nat} {x : Int64} {L' : Lc} (hd : decode M.2.1 pc = .ok (.lstore n, 2)) (hn : Nat.blt (n + 1) M.2.2.1 = true) (hok : okI L n = true) (hL : setL L n (.long x) = L') (k : Z l G M d (pc + 2) L' st σ Q) : Z l G M d pc L (.long x :: st) σ Q := by
  intro p e R s m args below meth c H locs cells slots Qf ls C hR hl
  refine lv_lstore C.1 C.2.1 hd hl.to (Nat.le_of_ble_eq_true hn) rfl (fun ls1 hl1 => ?_)
  exact k p e R s m args below meth c H locs cells slots Qf ls1 C hR (by rw [← hL]; exact lhas.of (lv_has_sub hl1 (setL_sub hok)))
theorem z_lstore_n {n : Fin 4} {x : Int64} {L' : Lc} (hd : decode M.2.1 pc = .ok (.lstore_n n, 1)) (hn : Nat.blt ((n : Nat) + 1) M.2.2.1 = true) (hok : okI L n = true) (hL : setL L n (.long x) = L') (k : Z l G M d (pc + 1) L' st σ Q) : Z l G M d pc L (.long x :: st) σ Q := by
  intro p e R s m args below meth c H locs cells slots Qf ls C hR hl
  refine lv_lstore_n C.1 C.2.1 hd rfl hl.to (Nat.le_of_ble_eq_true hn) rfl (fun ls1 hl1 => ?_)
  exact k p e R s m args below meth c H locs cells slots Qf ls1 C hR (by rw [← hL]; exact lhas.of (lv_has_sub hl1 (setL_sub hok)))
theorem z_astore {n : Nat} {x : Nat} {L' : Lc} (hd : decode M.2.1 pc = .ok (.astore n, 2)) (hn : Nat.blt (n) M.2.2.1 = true) (hok : okI L n = true) (hL : setI L n (.ref x) = L') (k : Z l G M d (pc + 2) L' st σ Q) : Z l G M d pc L (.ref x :: st) σ Q := by
  intro p e R s m args below meth c H locs cells slots Qf ls C hR hl
  refine lv_astore C.1 C.2.1 hd hl.to (Nat.le_of_ble_eq_true hn) rfl (fun ls1 hl1 => ?_)
  exact k p e R s m args below meth c H locs cells slots Qf ls1 C hR (by rw [← hL]; exact lhas.of (lv_has_sub hl1 (setI_sub hok)))
theorem z_astore_n {n : Fin 4} {x : Nat} {L' : Lc} (hd : decode M.2.1 pc = .ok (.astore_n n, 1)) (hn : Nat.blt ((n : Nat)) M.2.2.1 = true) (hok : okI L n = true) (hL : setI L n (.ref x) = L') (k : Z l G M d (pc + 1) L' st σ Q) : Z l G M d pc L (.ref x :: st) σ Q := by
  intro p e R s m args below meth c H locs cells slots Qf ls C hR hl
  refine lv_astore_n C.1 C.2.1 hd rfl hl.to (Nat.le_of_ble_eq_true hn) rfl (fun ls1 hl1 => ?_)
  exact k p e R s m args below meth c H locs cells slots Qf ls1 C hR (by rw [← hL]; exact lhas.of (lv_has_sub hl1 (setI_sub hok)))
theorem z_iinc {n : Nat} {j : Int} {x v : Int32} {L' : Lc} (hd : decode M.2.1 pc = .ok (.iinc n j, 3)) (hx : L[n]? = some (some (.int x))) (hv : x + Int32.ofInt j = v) (hn : Nat.blt n M.2.2.1 = true) (hok : okI L n = true) (hL : setI L n (.int v) = L') (k : Z l G M d (pc + 3) L' st σ Q) : Z l G M d pc L st σ Q := by
  intro p e R s m args below meth c H locs cells slots Qf ls C hR hl
  obtain ⟨q, hq⟩ := List.getElem?_of_mem (lst_mem (α := G.1) (L := L) (q := (n, .int x)) |>.mpr ⟨_, hx, rfl⟩)
  refine lv_iinc C.1 C.2.1 hd hl.to hq hv (Nat.le_of_ble_eq_true hn) rfl (fun ls1 hl1 => ?_)
  exact k p e R s m args below meth c H locs cells slots Qf ls1 C hR (by rw [← hL]; exact lhas.of (lv_has_sub hl1 (setI_sub hok)))
theorem z_iadd {x y : Int32} (hd : decode M.2.1 pc = .ok (.iadd, 1)) (k : Z l G M d (pc + 1) L (.int (x + y) :: st) σ Q) : Z l G M d pc L (.int y :: .int x :: st) σ Q := by
  intro p e R s m args below meth c H locs cells slots Qf ls C hR hl
  exact lv_iadd C.1 C.2.1 hd (k p e R s m args below meth c H locs cells slots Qf ls C hR hl)
theorem z_isub {x y : Int32} (hd : decode M.2.1 pc = .ok (.isub, 1)) (k : Z l G M d (pc + 1) L (.int (x - y) :: st) σ Q) : Z l G M d pc L (.int y :: .int x :: st) σ Q := by
  intro p e R s m args below meth c H locs cells slots Qf ls C hR hl
  exact lv_isub C.1 C.2.1 hd (k p e R s m args below meth c H locs cells slots Qf ls C hR hl)
theorem z_imul {x y : Int32} (hd : decode M.2.1 pc = .ok (.imul, 1)) (k : Z l G M d (pc + 1) L (.int (x * y) :: st) σ Q) : Z l G M d pc L (.int y :: .int x :: st) σ Q := by
  intro p e R s m args below meth c H locs cells slots Qf ls C hR hl
  exact lv_imul C.1 C.2.1 hd (k p e R s m args below meth c H locs cells slots Qf ls C hR hl)
theorem z_iand {x y : Int32} (hd : decode M.2.1 pc = .ok (.iand, 1)) (k : Z l G M d (pc + 1) L (.int (x &&& y) :: st) σ Q) : Z l G M d pc L (.int y :: .int x :: st) σ Q := by
  intro p e R s m args below meth c H locs cells slots Qf ls C hR hl
  exact lv_iand C.1 C.2.1 hd (k p e R s m args below meth c H locs cells slots Qf ls C hR hl)
theorem z_ladd {x y : Int64} (hd : decode M.2.1 pc = .ok (.ladd, 1)) (k : Z l G M d (pc + 1) L (.long (x + y) :: st) σ Q) : Z l G M d pc L (.long y :: .long x :: st) σ Q := by
  intro p e R s m args below meth c H locs cells slots Qf ls C hR hl
  exact lv_ladd C.1 C.2.1 hd (k p e R s m args below meth c H locs cells slots Qf ls C hR hl)
theorem z_lsub {x y : Int64} (hd : decode M.2.1 pc = .ok (.lsub, 1)) (k : Z l G M d (pc + 1) L (.long (x - y) :: st) σ Q) : Z l G M d pc L (.long y :: .long x :: st) σ Q := by
  intro p e R s m args below meth c H locs cells slots Qf ls C hR hl
  exact lv_lsub C.1 C.2.1 hd (k p e R s m args below meth c H locs cells slots Qf ls C hR hl)
theorem z_lmul {x y : Int64} (hd : decode M.2.1 pc = .ok (.lmul, 1)) (k : Z l G M d (pc + 1) L (.long (x * y) :: st) σ Q) : Z l G M d pc L (.long y :: .long x :: st) σ Q := by
  intro p e R s m args below meth c H locs cells slots Qf ls C hR hl
  exact lv_lmul C.1 C.2.1 hd (k p e R s m args below meth c H locs cells slots Qf ls C hR hl)
theorem z_land {x y : Int64} (hd : decode M.2.1 pc = .ok (.land, 1)) (k : Z l G M d (pc + 1) L (.long (x &&& y) :: st) σ Q) : Z l G M d pc L (.long y :: .long x :: st) σ Q := by
  intro p e R s m args below meth c H locs cells slots Qf ls C hR hl
  exact lv_land C.1 C.2.1 hd (k p e R s m args below meth c H locs cells slots Qf ls C hR hl)
theorem z_lor {x y : Int64} (hd : decode M.2.1 pc = .ok (.lor, 1)) (k : Z l G M d (pc + 1) L (.long (x ||| y) :: st) σ Q) : Z l G M d pc L (.long y :: .long x :: st) σ Q := by
  intro p e R s m args below meth c H locs cells slots Qf ls C hR hl
  exact lv_lor C.1 C.2.1 hd (k p e R s m args below meth c H locs cells slots Qf ls C hR hl)
theorem z_idiv {x y : Int32} (hd : decode M.2.1 pc = .ok (.idiv, 1)) (hne : ¬ y = 0) (k : Z l G M d (pc + 1) L (.int (x / y) :: st) σ Q) : Z l G M d pc L (.int y :: .int x :: st) σ Q := by
  intro p e R s m args below meth c H locs cells slots Qf ls C hR hl
  exact lv_idiv C.1 C.2.1 hd hne (k p e R s m args below meth c H locs cells slots Qf ls C hR hl)
theorem z_irem {x y : Int32} (hd : decode M.2.1 pc = .ok (.irem, 1)) (hne : ¬ y = 0) (k : Z l G M d (pc + 1) L (.int (x - x / y * y) :: st) σ Q) : Z l G M d pc L (.int y :: .int x :: st) σ Q := by
  intro p e R s m args below meth c H locs cells slots Qf ls C hR hl
  exact lv_irem C.1 C.2.1 hd hne (k p e R s m args below meth c H locs cells slots Qf ls C hR hl)
theorem z_ldiv {x y : Int64} (hd : decode M.2.1 pc = .ok (.ldiv, 1)) (hne : ¬ y = 0) (k : Z l G M d (pc + 1) L (.long (x / y) :: st) σ Q) : Z l G M d pc L (.long y :: .long x :: st) σ Q := by
  intro p e R s m args below meth c H locs cells slots Qf ls C hR hl
  exact lv_ldiv C.1 C.2.1 hd hne (k p e R s m args below meth c H locs cells slots Qf ls C hR hl)
theorem z_lrem {x y : Int64} (hd : decode M.2.1 pc = .ok (.lrem, 1)) (hne : ¬ y = 0) (k : Z l G M d (pc + 1) L (.long (x - x / y * y) :: st) σ Q) : Z l G M d pc L (.long y :: .long x :: st) σ Q := by
  intro p e R s m args below meth c H locs cells slots Qf ls C hR hl
  exact lv_lrem C.1 C.2.1 hd hne (k p e R s m args below meth c H locs cells slots Qf ls C hR hl)
theorem z_ineg {x : Int32} (hd : decode M.2.1 pc = .ok (.ineg, 1)) (k : Z l G M d (pc + 1) L (.int (-x) :: st) σ Q) : Z l G M d pc L (.int x :: st) σ Q := by
  intro p e R s m args below meth c H locs cells slots Qf ls C hR hl
  exact lv_ineg C.1 C.2.1 hd (k p e R s m args below meth c H locs cells slots Qf ls C hR hl)
theorem z_lneg {x : Int64} (hd : decode M.2.1 pc = .ok (.lneg, 1)) (k : Z l G M d (pc + 1) L (.long (-x) :: st) σ Q) : Z l G M d pc L (.long x :: st) σ Q := by
  intro p e R s m args below meth c H locs cells slots Qf ls C hR hl
  exact lv_lneg C.1 C.2.1 hd (k p e R s m args below meth c H locs cells slots Qf ls C hR hl)
theorem z_i2l {x : Int32} (hd : decode M.2.1 pc = .ok (.i2l, 1)) (k : Z l G M d (pc + 1) L (.long x.toInt64 :: st) σ Q) : Z l G M d pc L (.int x :: st) σ Q := by
  intro p e R s m args below meth c H locs cells slots Qf ls C hR hl
  exact lv_i2l C.1 C.2.1 hd rfl (k p e R s m args below meth c H locs cells slots Qf ls C hR hl)
theorem z_l2i {x : Int64} (hd : decode M.2.1 pc = .ok (.l2i, 1)) (k : Z l G M d (pc + 1) L (.int x.toInt32 :: st) σ Q) : Z l G M d pc L (.long x :: st) σ Q := by
  intro p e R s m args below meth c H locs cells slots Qf ls C hR hl
  exact lv_l2i C.1 C.2.1 hd rfl (k p e R s m args below meth c H locs cells slots Qf ls C hR hl)
theorem z_i2s {x : Int32} (hd : decode M.2.1 pc = .ok (.i2s, 1)) (k : Z l G M d (pc + 1) L (.int x.toInt16.toInt32 :: st) σ Q) : Z l G M d pc L (.int x :: st) σ Q := by
  intro p e R s m args below meth c H locs cells slots Qf ls C hR hl
  exact lv_i2s C.1 C.2.1 hd rfl (k p e R s m args below meth c H locs cells slots Qf ls C hR hl)
theorem z_lshl {x : Int64} {y : Int32} (hd : decode M.2.1 pc = .ok (.lshl, 1)) (k : Z l G M d (pc + 1) L (.long (x <<< (y.toInt64 &&& 63)) :: st) σ Q) : Z l G M d pc L (.int y :: .long x :: st) σ Q := by
  intro p e R s m args below meth c H locs cells slots Qf ls C hR hl
  exact lv_lshl C.1 C.2.1 hd rfl (k p e R s m args below meth c H locs cells slots Qf ls C hR hl)
theorem z_dup {v : Value} (hd : decode M.2.1 pc = .ok (.dup, 1)) (hv : v.category = 1 := by rfl) (k : Z l G M d (pc + 1) L (v :: v :: st) σ Q) : Z l G M d pc L (v :: st) σ Q := by
  intro p e R s m args below meth c H locs cells slots Qf ls C hR hl
  exact lv_dup C.1 C.2.1 hd (by rw [rv_cat]; exact hv) (k p e R s m args below meth c H locs cells slots Qf ls C hR hl)
theorem z_dup2 {v w : Value} (hd : decode M.2.1 pc = .ok (.dup2, 1)) (hv : v.category = 1 := by rfl) (hw : w.category = 1 := by rfl) (k : Z l G M d (pc + 1) L (v :: w :: v :: w :: st) σ Q) : Z l G M d pc L (v :: w :: st) σ Q := by
  intro p e R s m args below meth c H locs cells slots Qf ls C hR hl
  exact lv_dup2_11 C.1 C.2.1 hd (by rw [rv_cat]; exact hv) (by rw [rv_cat]; exact hw) (k p e R s m args below meth c H locs cells slots Qf ls C hR hl)
theorem z_if_eq {x : Int32} {off : Int} {tgt : Nat} (hd : decode M.2.1 pc = .ok (.ifCond .eq off, 3)) (ht : (pc : Int) + off = (tgt : Int)) (kt : x = 0 → Z l G M d tgt L st σ Q) (kf : ¬ x = 0 → Z l G M d (pc + 3) L st σ Q) : Z l G M d pc L (.int x :: st) σ Q := by
  intro p e R s m args below meth c H locs cells slots Qf ls C hR hl
  exact lv_if_eq C.1 C.2.1 hd ht (fun hh => (kt hh p e R s m args below meth c H locs cells slots Qf ls C hR hl)) (fun hh => (kf hh p e R s m args below meth c H locs cells slots Qf ls C hR hl))
theorem z_icmp_eq {x y : Int32} {off : Int} {tgt : Nat} (hd : decode M.2.1 pc = .ok (.if_icmp .eq off, 3)) (ht : (pc : Int) + off = (tgt : Int)) (kt : x = y → Z l G M d tgt L st σ Q) (kf : ¬ x = y → Z l G M d (pc + 3) L st σ Q) : Z l G M d pc L (.int y :: .int x :: st) σ Q := by
  intro p e R s m args below meth c H locs cells slots Qf ls C hR hl
  exact lv_icmp_eq C.1 C.2.1 hd ht (fun hh => (kt hh p e R s m args below meth c H locs cells slots Qf ls C hR hl)) (fun hh => (kf hh p e R s m args below meth c H locs cells slots Qf ls C hR hl))
theorem z_lc_eq {x y : Int64} {off : Int} {tgt : Nat} (hd0 : decode M.2.1 pc = .ok (.lcmp, 1)) (hd : decode M.2.1 (pc + 1) = .ok (.ifCond .eq off, 3)) (ht : ((pc + 1 : Nat) : Int) + off = (tgt : Int)) (kt : x = y → Z l G M d tgt L st σ Q) (kf : ¬ x = y → Z l G M d (pc + 4) L st σ Q) : Z l G M d pc L (.long y :: .long x :: st) σ Q := by
  intro p e R s m args below meth c H locs cells slots Qf ls C hR hl
  exact W.lcmp C.1 C.2.1 hd0 (lv_if_eq C.1 C.2.1 hd ht (fun hh => (kt ((lg_cmp_eq x y).mp hh) p e R s m args below meth c H locs cells slots Qf ls C hR hl)) (fun hh => (kf ((not_congr (lg_cmp_eq x y)).mp hh) p e R s m args below meth c H locs cells slots Qf ls C hR hl)))
theorem z_if_ne {x : Int32} {off : Int} {tgt : Nat} (hd : decode M.2.1 pc = .ok (.ifCond .ne off, 3)) (ht : (pc : Int) + off = (tgt : Int)) (kt : ¬ x = 0 → Z l G M d tgt L st σ Q) (kf : x = 0 → Z l G M d (pc + 3) L st σ Q) : Z l G M d pc L (.int x :: st) σ Q := by
  intro p e R s m args below meth c H locs cells slots Qf ls C hR hl
  exact lv_if_ne C.1 C.2.1 hd ht (fun hh => (kt hh p e R s m args below meth c H locs cells slots Qf ls C hR hl)) (fun hh => (kf hh p e R s m args below meth c H locs cells slots Qf ls C hR hl))
theorem z_icmp_ne {x y : Int32} {off : Int} {tgt : Nat} (hd : decode M.2.1 pc = .ok (.if_icmp .ne off, 3)) (ht : (pc : Int) + off = (tgt : Int)) (kt : ¬ x = y → Z l G M d tgt L st σ Q) (kf : x = y → Z l G M d (pc + 3) L st σ Q) : Z l G M d pc L (.int y :: .int x :: st) σ Q := by
  intro p e R s m args below meth c H locs cells slots Qf ls C hR hl
  exact lv_icmp_ne C.1 C.2.1 hd ht (fun hh => (kt hh p e R s m args below meth c H locs cells slots Qf ls C hR hl)) (fun hh => (kf hh p e R s m args below meth c H locs cells slots Qf ls C hR hl))
theorem z_lc_ne {x y : Int64} {off : Int} {tgt : Nat} (hd0 : decode M.2.1 pc = .ok (.lcmp, 1)) (hd : decode M.2.1 (pc + 1) = .ok (.ifCond .ne off, 3)) (ht : ((pc + 1 : Nat) : Int) + off = (tgt : Int)) (kt : ¬ x = y → Z l G M d tgt L st σ Q) (kf : x = y → Z l G M d (pc + 4) L st σ Q) : Z l G M d pc L (.long y :: .long x :: st) σ Q := by
  intro p e R s m args below meth c H locs cells slots Qf ls C hR hl
  exact W.lcmp C.1 C.2.1 hd0 (lv_if_ne C.1 C.2.1 hd ht (fun hh => (kt ((not_congr (lg_cmp_eq x y)).mp hh) p e R s m args below meth c H locs cells slots Qf ls C hR hl)) (fun hh => (kf ((lg_cmp_eq x y).mp hh) p e R s m args below meth c H locs cells slots Qf ls C hR hl)))
theorem z_if_lt {x : Int32} {off : Int} {tgt : Nat} (hd : decode M.2.1 pc = .ok (.ifCond .lt off, 3)) (ht : (pc : Int) + off = (tgt : Int)) (kt : x < 0 → Z l G M d tgt L st σ Q) (kf : ¬ x < 0 → Z l G M d (pc + 3) L st σ Q) : Z l G M d pc L (.int x :: st) σ Q := by
  intro p e R s m args below meth c H locs cells slots Qf ls C hR hl
  exact lv_if_lt C.1 C.2.1 hd ht (fun hh => (kt hh p e R s m args below meth c H locs cells slots Qf ls C hR hl)) (fun hh => (kf hh p e R s m args below meth c H locs cells slots Qf ls C hR hl))
theorem z_icmp_lt {x y : Int32} {off : Int} {tgt : Nat} (hd : decode M.2.1 pc = .ok (.if_icmp .lt off, 3)) (ht : (pc : Int) + off = (tgt : Int)) (kt : x < y → Z l G M d tgt L st σ Q) (kf : ¬ x < y → Z l G M d (pc + 3) L st σ Q) : Z l G M d pc L (.int y :: .int x :: st) σ Q := by
  intro p e R s m args below meth c H locs cells slots Qf ls C hR hl
  exact lv_icmp_lt C.1 C.2.1 hd ht (fun hh => (kt hh p e R s m args below meth c H locs cells slots Qf ls C hR hl)) (fun hh => (kf hh p e R s m args below meth c H locs cells slots Qf ls C hR hl))
theorem z_lc_lt {x y : Int64} {off : Int} {tgt : Nat} (hd0 : decode M.2.1 pc = .ok (.lcmp, 1)) (hd : decode M.2.1 (pc + 1) = .ok (.ifCond .lt off, 3)) (ht : ((pc + 1 : Nat) : Int) + off = (tgt : Int)) (kt : x < y → Z l G M d tgt L st σ Q) (kf : ¬ x < y → Z l G M d (pc + 4) L st σ Q) : Z l G M d pc L (.long y :: .long x :: st) σ Q := by
  intro p e R s m args below meth c H locs cells slots Qf ls C hR hl
  exact W.lcmp C.1 C.2.1 hd0 (lv_if_lt C.1 C.2.1 hd ht (fun hh => (kt ((lg_cmp_lt x y).mp hh) p e R s m args below meth c H locs cells slots Qf ls C hR hl)) (fun hh => (kf ((not_congr (lg_cmp_lt x y)).mp hh) p e R s m args below meth c H locs cells slots Qf ls C hR hl)))
theorem z_if_ge {x : Int32} {off : Int} {tgt : Nat} (hd : decode M.2.1 pc = .ok (.ifCond .ge off, 3)) (ht : (pc : Int) + off = (tgt : Int)) (kt : 0 ≤ x → Z l G M d tgt L st σ Q) (kf : ¬ 0 ≤ x → Z l G M d (pc + 3) L st σ Q) : Z l G M d pc L (.int x :: st) σ Q := by
  intro p e R s m args below meth c H locs cells slots Qf ls C hR hl
  exact lv_if_ge C.1 C.2.1 hd ht (fun hh => (kt hh p e R s m args below meth c H locs cells slots Qf ls C hR hl)) (fun hh => (kf hh p e R s m args below meth c H locs cells slots Qf ls C hR hl))
theorem z_icmp_ge {x y : Int32} {off : Int} {tgt : Nat} (hd : decode M.2.1 pc = .ok (.if_icmp .ge off, 3)) (ht : (pc : Int) + off = (tgt : Int)) (kt : y ≤ x → Z l G M d tgt L st σ Q) (kf : ¬ y ≤ x → Z l G M d (pc + 3) L st σ Q) : Z l G M d pc L (.int y :: .int x :: st) σ Q := by
  intro p e R s m args below meth c H locs cells slots Qf ls C hR hl
  exact lv_icmp_ge C.1 C.2.1 hd ht (fun hh => (kt hh p e R s m args below meth c H locs cells slots Qf ls C hR hl)) (fun hh => (kf hh p e R s m args below meth c H locs cells slots Qf ls C hR hl))
theorem z_lc_ge {x y : Int64} {off : Int} {tgt : Nat} (hd0 : decode M.2.1 pc = .ok (.lcmp, 1)) (hd : decode M.2.1 (pc + 1) = .ok (.ifCond .ge off, 3)) (ht : ((pc + 1 : Nat) : Int) + off = (tgt : Int)) (kt : y ≤ x → Z l G M d tgt L st σ Q) (kf : ¬ y ≤ x → Z l G M d (pc + 4) L st σ Q) : Z l G M d pc L (.long y :: .long x :: st) σ Q := by
  intro p e R s m args below meth c H locs cells slots Qf ls C hR hl
  exact W.lcmp C.1 C.2.1 hd0 (lv_if_ge C.1 C.2.1 hd ht (fun hh => (kt ((lg_cmp_ge x y).mp hh) p e R s m args below meth c H locs cells slots Qf ls C hR hl)) (fun hh => (kf ((not_congr (lg_cmp_ge x y)).mp hh) p e R s m args below meth c H locs cells slots Qf ls C hR hl)))
theorem z_if_gt {x : Int32} {off : Int} {tgt : Nat} (hd : decode M.2.1 pc = .ok (.ifCond .gt off, 3)) (ht : (pc : Int) + off = (tgt : Int)) (kt : 0 < x → Z l G M d tgt L st σ Q) (kf : ¬ 0 < x → Z l G M d (pc + 3) L st σ Q) : Z l G M d pc L (.int x :: st) σ Q := by
  intro p e R s m args below meth c H locs cells slots Qf ls C hR hl
  exact lv_if_gt C.1 C.2.1 hd ht (fun hh => (kt hh p e R s m args below meth c H locs cells slots Qf ls C hR hl)) (fun hh => (kf hh p e R s m args below meth c H locs cells slots Qf ls C hR hl))
theorem z_icmp_gt {x y : Int32} {off : Int} {tgt : Nat} (hd : decode M.2.1 pc = .ok (.if_icmp .gt off, 3)) (ht : (pc : Int) + off = (tgt : Int)) (kt : y < x → Z l G M d tgt L st σ Q) (kf : ¬ y < x → Z l G M d (pc + 3) L st σ Q) : Z l G M d pc L (.int y :: .int x :: st) σ Q := by
  intro p e R s m args below meth c H locs cells slots Qf ls C hR hl
  exact lv_icmp_gt C.1 C.2.1 hd ht (fun hh => (kt hh p e R s m args below meth c H locs cells slots Qf ls C hR hl)) (fun hh => (kf hh p e R s m args below meth c H locs cells slots Qf ls C hR hl))
theorem z_lc_gt {x y : Int64} {off : Int} {tgt : Nat} (hd0 : decode M.2.1 pc = .ok (.lcmp, 1)) (hd : decode M.2.1 (pc + 1) = .ok (.ifCond .gt off, 3)) (ht : ((pc + 1 : Nat) : Int) + off = (tgt : Int)) (kt : y < x → Z l G M d tgt L st σ Q) (kf : ¬ y < x → Z l G M d (pc + 4) L st σ Q) : Z l G M d pc L (.long y :: .long x :: st) σ Q := by
  intro p e R s m args below meth c H locs cells slots Qf ls C hR hl
  exact W.lcmp C.1 C.2.1 hd0 (lv_if_gt C.1 C.2.1 hd ht (fun hh => (kt ((lg_cmp_gt x y).mp hh) p e R s m args below meth c H locs cells slots Qf ls C hR hl)) (fun hh => (kf ((not_congr (lg_cmp_gt x y)).mp hh) p e R s m args below meth c H locs cells slots Qf ls C hR hl)))
theorem z_if_le {x : Int32} {off : Int} {tgt : Nat} (hd : decode M.2.1 pc = .ok (.ifCond .le off, 3)) (ht : (pc : Int) + off = (tgt : Int)) (kt : x ≤ 0 → Z l G M d tgt L st σ Q) (kf : ¬ x ≤ 0 → Z l G M d (pc + 3) L st σ Q) : Z l G M d pc L (.int x :: st) σ Q := by
  intro p e R s m args below meth c H locs cells slots Qf ls C hR hl
  exact lv_if_le C.1 C.2.1 hd ht (fun hh => (kt hh p e R s m args below meth c H locs cells slots Qf ls C hR hl)) (fun hh => (kf hh p e R s m args below meth c H locs cells slots Qf ls C hR hl))
theorem z_icmp_le {x y : Int32} {off : Int} {tgt : Nat} (hd : decode M.2.1 pc = .ok (.if_icmp .le off, 3)) (ht : (pc : Int) + off = (tgt : Int)) (kt : x ≤ y → Z l G M d tgt L st σ Q) (kf : ¬ x ≤ y → Z l G M d (pc + 3) L st σ Q) : Z l G M d pc L (.int y :: .int x :: st) σ Q := by
  intro p e R s m args below meth c H locs cells slots Qf ls C hR hl
  exact lv_icmp_le C.1 C.2.1 hd ht (fun hh => (kt hh p e R s m args below meth c H locs cells slots Qf ls C hR hl)) (fun hh => (kf hh p e R s m args below meth c H locs cells slots Qf ls C hR hl))
theorem z_lc_le {x y : Int64} {off : Int} {tgt : Nat} (hd0 : decode M.2.1 pc = .ok (.lcmp, 1)) (hd : decode M.2.1 (pc + 1) = .ok (.ifCond .le off, 3)) (ht : ((pc + 1 : Nat) : Int) + off = (tgt : Int)) (kt : x ≤ y → Z l G M d tgt L st σ Q) (kf : ¬ x ≤ y → Z l G M d (pc + 4) L st σ Q) : Z l G M d pc L (.long y :: .long x :: st) σ Q := by
  intro p e R s m args below meth c H locs cells slots Qf ls C hR hl
  exact W.lcmp C.1 C.2.1 hd0 (lv_if_le C.1 C.2.1 hd ht (fun hh => (kt ((lg_cmp_le x y).mp hh) p e R s m args below meth c H locs cells slots Qf ls C hR hl)) (fun hh => (kf ((not_congr (lg_cmp_le x y)).mp hh) p e R s m args below meth c H locs cells slots Qf ls C hR hl)))
theorem z_goto {off : Int} {tgt : Nat} (hd : decode M.2.1 pc = .ok (.goto off, 3)) (ht : (pc : Int) + off = (tgt : Int)) (k : Z l G M d tgt L st σ Q) : Z l G M d pc L st σ Q := by
  intro p e R s m args below meth c H locs cells slots Qf ls C hR hl
  exact lv_goto C.1 C.2.1 hd ht (k p e R s m args below meth c H locs cells slots Qf ls C hR hl)
theorem z_swOut {dflt lo hi : Int} {offs : Array Int} {len : Nat} {x : Int32} {tgt : Nat} (hd : decode M.2.1 pc = .ok (.tableswitch dflt lo hi offs, len)) (h : x.toInt < lo ∨ hi < x.toInt) (ht : (pc : Int) + dflt = (tgt : Int)) (k : Z l G M d tgt L st σ Q) : Z l G M d pc L (.int x :: st) σ Q := by
  intro p e R s m args below meth c H locs cells slots Qf ls C hR hl
  exact lv_tableOut C.1 C.2.1 hd h ht (k p e R s m args below meth c H locs cells slots Qf ls C hR hl)
theorem z_swIn {dflt lo hi : Int} {offs : Array Int} {len : Nat} {x : Int32} {off : Int} {tgt : Nat} (hd : decode M.2.1 pc = .ok (.tableswitch dflt lo hi offs, len)) (h1 : ¬ x.toInt < lo) (h2 : ¬ hi < x.toInt) (ho : offs[(x.toInt - lo).toNat]? = some off) (ht : (pc : Int) + off = (tgt : Int)) (k : Z l G M d tgt L st σ Q) : Z l G M d pc L (.int x :: st) σ Q := by
  intro p e R s m args below meth c H locs cells slots Qf ls C hR hl
  exact lv_tableIn C.1 C.2.1 hd h1 h2 ho ht (k p e R s m args below meth c H locs cells slots Qf ls C hR hl)
theorem z_iret {x : Int32} (hd : decode M.2.1 pc = .ok (.ireturn, 1)) (hr : M.2.2.2 = some .int) (h : Q (some (.int x)) σ) : Z l G M d pc L [.int x] σ Q := by
  intro p e R s m args below meth c H locs cells slots Qf ls C hR hl
  exact C.2.2.2.2.2.2.2.2.2.2 pc (some (.int x)) σ H locs ls h hR ⟨hd, .int, hr, rfl⟩
theorem z_zret {x : Int32} (hd : decode M.2.1 pc = .ok (.ireturn, 1)) (hr : M.2.2.2 = some .boolean) (h1 : x = 0 ∨ x = 1) (h : Q (some (.int x)) σ) : Z l G M d pc L [.int x] σ Q := by
  intro p e R s m args below meth c H locs cells slots Qf ls C hR hl
  exact C.2.2.2.2.2.2.2.2.2.2 pc (some (.int x)) σ H locs ls h hR ⟨hd, .boolean, hr, by rcases h1 with rfl | rfl <;> rfl⟩
theorem z_lret {x : Int64} (hd : decode M.2.1 pc = .ok (.lreturn, 1)) (hr : M.2.2.2 = some .long) (h : Q (some (.long x)) σ) : Z l G M d pc L [.long x] σ Q := by
  intro p e R s m args below meth c H locs cells slots Qf ls C hR hl
  exact C.2.2.2.2.2.2.2.2.2.2 pc (some (.long x)) σ H locs ls h hR ⟨hd, hr⟩
theorem z_aret {a : Nat} {ty : FieldType} (hd : decode M.2.1 pc = .ok (.areturn, 1)) (hr : M.2.2.2 = some ty) (ht : (∃ n, ty = .object n) ∨ ∃ t, ty = .array t) (h : Q (some (.ref a)) σ) : Z l G M d pc L [.ref a] σ Q := by
  intro p e R s m args below meth c H locs cells slots Qf ls C hR hl
  exact C.2.2.2.2.2.2.2.2.2.2 pc (some (.ref a)) σ H locs ls h hR ⟨hd, ty, hr, ht⟩
theorem z_vret (hd : decode M.2.1 pc = .ok (.return_, 1)) (hr : M.2.2.2 = none) (h : Q none σ) : Z l G M d pc L [] σ Q := by
  intro p e R s m args below meth c H locs cells slots Qf ls C hR hl
  exact C.2.2.2.2.2.2.2.2.2.2 pc none σ H locs ls h hR ⟨hd, hr⟩
end ZO
end
section
/-! fields and arrays -/
/-- a field of a class, as a method of class own links it at place idx -/
def FL (own : String) (idx ci k : Nat) : Prop := ∃ q : vw_C, vwCl[ci]? = some q ∧ k < q.2.2 ∧ Cond.fieldLink own idx (q.2.1 k).1 (q.2.1 k).2.1 (q.2.1 k).2.2.1 ∈ lw_tbl
/-- what the tables say of a class -/
def CLs (ci : Nat) : Prop := ∃ (q : vw_C) (ty : Nat → FieldType), vwCl[ci]? = some q ∧ (∀ w ∈ u_ws q.1 q.2.1 q.2.2, w ∈ lw_tbl) ∧ (∀ k, k < q.2.2 → parseFieldDescriptor (q.2.1 k).2.2.1 = some (ty k)) ∧ (∀ a, a < q.2.2 → ∀ b, b < q.2.2 → a ≠ b → (q.2.1 a).2.1 ≠ (q.2.1 b).2.1) ∧ nfl ci = q.2.2 ∧
  ∀ k, k < q.2.2 → (fty ci k = 0 → ty k = .int ∧ (q.2.1 k).2.2.2 = false) ∧ (fty ci k = 1 → ty k = .long ∧ (q.2.1 k).2.2.2 = false) ∧ (fty ci k = 3 → ty k = .boolean ∧ (q.2.1 k).2.2.2 = false)
set_option maxRecDepth 20000 in
theorem cl_0 : CLs 0 := ⟨_, tyX0, rfl, by decide +kernel, tyX0_ok, nmX0, rfl, by decide +kernel⟩
set_option maxRecDepth 20000 in
theorem cl_1 : CLs 1 := ⟨_, tyX1, rfl, by decide +kernel, tyX1_ok, nmX1, rfl, by decide +kernel⟩
set_option maxRecDepth 20000 in
theorem cl_2 : CLs 2 := ⟨_, tyX2, rfl, by decide +kernel, tyX2_ok, nmX2, rfl, by decide +kernel⟩
set_option maxRecDepth 20000 in
theorem cl_3 : CLs 3 := ⟨_, tyX3, rfl, by decide +kernel, tyX3_ok, nmX3, rfl, by decide +kernel⟩
set_option maxRecDepth 20000 in
theorem cl_4 : CLs 4 := ⟨_, tyX4, rfl, by decide +kernel, tyX4_ok, nmX4, rfl, by decide +kernel⟩
set_option maxRecDepth 20000 in
theorem cl_5 : CLs 5 := ⟨_, tyX5, rfl, by decide +kernel, tyX5_ok, nmX5, rfl, by decide +kernel⟩
set_option maxRecDepth 20000 in
theorem cl_6 : CLs 6 := ⟨_, tyX6, rfl, by decide +kernel, tyX6_ok, nmX6, rfl, by decide +kernel⟩
set_option maxRecDepth 20000 in
theorem cl_7 : CLs 7 := ⟨_, tyX7, rfl, by decide +kernel, tyX7_ok, nmX7, rfl, by decide +kernel⟩
set_option maxRecDepth 20000 in
theorem cl_8 : CLs 8 := ⟨_, tyX8, rfl, by decide +kernel, tyX8_ok, nmX8, rfl, by decide +kernel⟩
set_option maxRecDepth 20000 in
theorem cl_9 : CLs 9 := ⟨_, tyX9, rfl, by decide +kernel, tyX9_ok, nmX9, rfl, by decide +kernel⟩
set_option maxRecDepth 20000 in
theorem cl_10 : CLs 10 := ⟨_, tyX10, rfl, by decide +kernel, tyX10_ok, nmX10, rfl, by decide +kernel⟩
set_option maxRecDepth 20000 in
theorem cl_11 : CLs 11 := ⟨_, tyX11, rfl, by decide +kernel, tyX11_ok, nmX11, rfl, by decide +kernel⟩
theorem cls_all {ci : Nat} (h : ci < 12) : CLs ci := by
  match ci, h with
  | 0, _ => exact cl_0
  | 1, _ => exact cl_1
  | 2, _ => exact cl_2
  | 3, _ => exact cl_3
  | 4, _ => exact cl_4
  | 5, _ => exact cl_5
  | 6, _ => exact cl_6
  | 7, _ => exact cl_7
  | 8, _ => exact cl_8
  | 9, _ => exact cl_9
  | 10, _ => exact cl_10
  | 11, _ => exact cl_11
  | n + 12, h => omega
theorem u_good {C : String} {T : u_T} {N : Nat} {w : Cond} (h : w ∈ u_ws C T N) : goodWord w = true := by
  unfold u_ws at h
  obtain ⟨k, -, rfl⟩ := List.mem_map.mp h
  unfold u_lay
  split <;> rfl
theorem ws_at {G : Gx} {σ : Sg} {o : Nat} (h : o < 105) : (wsG G σ)[o]? = some (G.1 o, cel G σ o) := by
  unfold wsG
  rw [List.getElem?_map, List.getElem?_range h]
  rfl
/-- the list of cells behind a write to object o alone -/
theorem ws_set {G : Gx} {σ σ' : Sg} {o : Nat} {x : va_E} (ho : cel G σ' o = x) (hn : ∀ a, a ≠ o → cel G σ' a = cel G σ a) : (wsG G σ).set o (G.1 o, x) = wsG G σ' := by
  apply List.ext_getElem?
  intro i
  by_cases hi : i = o
  · subst hi
    rw [List.getElem?_set]
    unfold wsG
    simp only [if_true, List.length_map, List.length_range, List.getElem?_map]
    by_cases h : i < 105
    · rw [if_pos h, List.getElem?_range h]; simp [ho]
    · rw [if_neg h, List.getElem?_eq_none (by simp; omega)]; rfl
  · rw [List.getElem?_set_ne (fun e => hi e.symm)]
    unfold wsG
    rw [List.getElem?_map, List.getElem?_map]
    by_cases h : i < 105
    · rw [List.getElem?_range h]; simp [hn i hi]
    · rw [List.getElem?_eq_none (by simp; omega)]; rfl
/-- an int of the store becomes v -/
def uI (σ : Sg) (o k : Nat) (v : Int32) : Sg := (fun a b => if a = o then (if b = k then v else σ.1 a b) else σ.1 a b, σ.2)
/-- a long of the store becomes v -/
def uJ (σ : Sg) (o k : Nat) (v : Int64) : Sg := (σ.1, fun a b => if a = o then (if b = k then v else σ.2 a b) else σ.2 a b)
theorem uI_2 (σ : Sg) (o k : Nat) (v : Int32) : (uI σ o k v).2 = σ.2 := rfl
theorem uJ_1 (σ : Sg) (o k : Nat) (v : Int64) : (uJ σ o k v).1 = σ.1 := rfl
theorem uI_eq (σ : Sg) (o k : Nat) (v : Int32) : (uI σ o k v).1 o k = v := by simp [uI]
theorem uI_no {σ : Sg} {o k : Nat} {v : Int32} {a b : Nat} (h : a ≠ o) : (uI σ o k v).1 a b = σ.1 a b := by simp [uI, h]
theorem uI_nk {σ : Sg} {o k : Nat} {v : Int32} {a b : Nat} (h : b ≠ k) : (uI σ o k v).1 a b = σ.1 a b := by simp [uI, h]
theorem uJ_eq (σ : Sg) (o k : Nat) (v : Int64) : (uJ σ o k v).2 o k = v := by simp [uJ]
theorem uJ_no {σ : Sg} {o k : Nat} {v : Int64} {a b : Nat} (h : a ≠ o) : (uJ σ o k v).2 a b = σ.2 a b := by simp [uJ, h]
theorem uJ_nk {σ : Sg} {o k : Nat} {v : Int64} {a b : Nat} (h : b ≠ k) : (uJ σ o k v).2 a b = σ.2 a b := by simp [uJ, h]
theorem cel_o {G : Gx} {σ : Sg} {o ci : Nat} (h : kd o = ci) (hc : ci < 12) : cel G σ o = .inr (ci, (List.range (nfl ci)).map (fun k => rv G.1 (fvl σ o ci k))) := by
  unfold cel
  rw [h, if_pos hc]
theorem cel_J {G : Gx} {σ : Sg} {o : Nat} (h : kd o = 13) : cel G σ o = .inl (G.2.2.1 1, ln o, .inr (.inl (σ.2 o))) := by
  unfold cel
  rw [h, if_neg (by omega), if_pos rfl]
theorem cel_I {G : Gx} {σ : Sg} {o : Nat} (h : kd o = 12) : cel G σ o = .inl (G.2.2.1 0, ln o, .inl (σ.1 o)) := by
  unfold cel
  rw [h, if_neg (by omega), if_neg (by omega), if_pos (by omega)]
theorem cel_B {G : Gx} {σ : Sg} {o : Nat} (h : kd o = 14) : cel G σ o = .inl (G.2.2.1 2, ln o, .inl (σ.1 o)) := by
  unfold cel
  rw [h, if_neg (by omega), if_neg (by omega), if_pos (by omega)]
theorem cel_R {G : Gx} {σ : Sg} {o c : Nat} (h : kd o = 15 + c) : cel G σ o = .inl (G.2.2.1 (3 + c), ln o, .inr (.inr (.inr (.inr (fun i => some (G.1 (rfo o i))))))) := by
  unfold cel
  rw [h, if_neg (by omega), if_neg (by omega), if_neg (by omega), show 15 + c - 12 = 3 + c by omega]
/-- a cell reads nothing but its own slots -/
theorem cel_cong {G : Gx} {σ σ' : Sg} {a : Nat} (h1 : σ'.1 a = σ.1 a) (h2 : σ'.2 a = σ.2 a) : cel G σ' a = cel G σ a := by
  unfold cel
  rw [h1, h2]
  simp only [fvl, h1, h2]
theorem cel_uI {G : Gx} {σ : Sg} {o k a : Nat} {v : Int32} (h : a ≠ o) : cel G (uI σ o k v) a = cel G σ a := cel_cong (by funext b; exact uI_no h) rfl
theorem cel_uJ {G : Gx} {σ : Sg} {o k a : Nat} {v : Int64} (h : a ≠ o) : cel G (uJ σ o k v) a = cel G σ a := cel_cong rfl (by funext b; exact uJ_no h)
section ZH
variable {l : Launch} {G : Gx} {M : Mt} {d pc : Nat} {L : Lc} {st : List Value} {σ : Sg} {Q : Option Value → Sg → Prop}
theorem z_get {o idx ci k : Nat} (hd : decode M.2.1 pc = .ok (.getfield idx, 3)) (hf : FL M.1.cls idx ci k) (ho : kd o = ci) (hn : o < 105) (hc : ci < 12) (kk : Z l G M d (pc + 3) L (fvl σ o ci k :: st) σ Q) : Z l G M d pc L (.ref o :: st) σ Q := by
  intro p e R s m args below meth c H locs cells slots Qf ls C hR hl
  obtain ⟨q, h1, h2, h3⟩ := hf
  obtain ⟨q', ty, g1, g2, g3, g4, g5, g6⟩ := cls_all hc
  cases Option.some.inj (h1.symm.trans g1)
  refine va_get (C := q.1) (T := q.2.1) (N := q.2.2) C.1 C.2.1 C.2.2.2.2.1 (fun w hw => gtb_of (g2 w hw) (u_good hw)) C.2.2.2.1 C.2.2.2.2.2.1.2.1 hR.1 o (ws_at hn |>.trans (by rw [cel_o ho hc])) h1 k h2 (C.2.2.2.2.1 _ (gtb_of h3 rfl)) (fun _ h => h) (v := rv G.1 (fvl σ o ci k)) ?_ hd (kk p e R s m args below meth c H locs cells slots Qf ls C hR hl)
  rw [List.getElem?_map, List.getElem?_range (by rw [g5]; exact h2)]
  rfl
theorem z_getI {o idx ci k : Nat} (hd : decode M.2.1 pc = .ok (.getfield idx, 3)) (hf : FL M.1.cls idx ci k) (ho : kd o = ci) (hn : o < 105) (hc : ci < 12) (ht : fty ci k = 0 ∨ fty ci k = 3) (kk : Z l G M d (pc + 3) L (.int (σ.1 o k) :: st) σ Q) : Z l G M d pc L (.ref o :: st) σ Q := by
  refine z_get hd hf ho hn hc ?_
  have : fvl σ o ci k = .int (σ.1 o k) := by rcases ht with h | h <;> simp [fvl, h]
  rw [this]
  exact kk
theorem z_getJ {o idx ci k : Nat} (hd : decode M.2.1 pc = .ok (.getfield idx, 3)) (hf : FL M.1.cls idx ci k) (ho : kd o = ci) (hn : o < 105) (hc : ci < 12) (ht : fty ci k = 1) (kk : Z l G M d (pc + 3) L (.long (σ.2 o k) :: st) σ Q) : Z l G M d pc L (.ref o :: st) σ Q := by
  refine z_get hd hf ho hn hc ?_
  have : fvl σ o ci k = .long (σ.2 o k) := by simp [fvl, ht]
  rw [this]
  exact kk
theorem z_getR {o idx ci k t : Nat} (hd : decode M.2.1 pc = .ok (.getfield idx, 3)) (hf : FL M.1.cls idx ci k) (ho : kd o = ci) (hn : o < 105) (hc : ci < 12) (ht : fty ci k = 2) (hr : rfo o k = t) (kk : Z l G M d (pc + 3) L (.ref t :: st) σ Q) : Z l G M d pc L (.ref o :: st) σ Q := by
  refine z_get hd hf ho hn hc ?_
  have : fvl σ o ci k = .ref t := by simp [fvl, ht, hr]
  rw [this]
  exact kk
theorem fvl_uI {σ : Sg} {o ci k j : Nat} {v : Int32} (ht : fty ci k = 0 ∨ fty ci k = 3) : fvl (uI σ o k v) o ci j = if j = k then .int v else fvl σ o ci j := by
  by_cases h : j = k
  · subst h
    rw [if_pos rfl]
    rcases ht with h | h <;> simp [fvl, h, uI_eq]
  · rw [if_neg h]
    simp only [fvl, uI_nk h]
    rfl
theorem fvl_uJ {σ : Sg} {o ci k j : Nat} {v : Int64} (ht : fty ci k = 1) : fvl (uJ σ o k v) o ci j = if j = k then .long v else fvl σ o ci j := by
  by_cases h : j = k
  · subst h
    rw [if_pos rfl]
    simp [fvl, ht, uJ_eq]
  · rw [if_neg h]
    simp only [fvl, uJ_nk h]
    rfl
theorem map_set {n k : Nat} {f g : Nat → Value} {v : Value} (h : ∀ j, g j = if j = k then v else f j) : ((List.range n).map f).set k v = (List.range n).map g := by
  apply List.ext_getElem?
  intro i
  by_cases hi : i = k
  · subst hi
    rw [List.getElem?_set]
    simp only [if_true, List.length_map, List.length_range, List.getElem?_map]
    by_cases hh : i < n
    · rw [if_pos hh, List.getElem?_range hh]; simp [h]
    · rw [if_neg hh, List.getElem?_eq_none (by simp; omega)]; rfl
  · rw [List.getElem?_set_ne (fun e => hi e.symm), List.getElem?_map, List.getElem?_map]
    by_cases hh : i < n
    · rw [List.getElem?_range hh]; simp [h, hi]
    · rw [List.getElem?_eq_none (by simp; omega)]; rfl
theorem z_putI {o idx ci k : Nat} {v : Int32} (hd : decode M.2.1 pc = .ok (.putfield idx, 3)) (hf : FL M.1.cls idx ci k) (ho : kd o = ci) (hn : o < 105) (hc : ci < 12) (ht : fty ci k = 0) (kk : Z l G M d (pc + 3) L st (uI σ o k v) Q) : Z l G M d pc L (.int v :: .ref o :: st) σ Q := by
  intro p e R s m args below meth c H locs cells slots Qf ls C hR hl
  obtain ⟨q, h1, h2, h3⟩ := hf
  obtain ⟨q', ty, g1, g2, g3, g4, g5, g6⟩ := cls_all hc
  cases Option.some.inj (h1.symm.trans g1)
  refine va_put (C := q.1) (T := q.2.1) (N := q.2.2) C.1 C.2.1 C.2.2.2.2.1 (fun w hw => gtb_of (g2 w hw) (u_good hw)) ty g3 g4 C.2.2.2.1 C.2.2.2.2.2.1.2.1 hR.1 hR.2.1 hR.2.2 o (ws_at hn |>.trans (by rw [cel_o ho hc])) h1 k h2 (C.2.2.2.2.1 _ (gtb_of h3 rfl)) (fun _ h => h) ((g6 k h2).1 ht).2 (ty := .int) (v := .int v) (by rw [g3 k h2, ((g6 k h2).1 ht).1]) rfl rfl (by simp [g5]; exact h2) hd (fun H1 locs1 hP hD hS => ?_)
  have hw := ws_set (G := G) (σ := σ) (σ' := uI σ o k v) (o := o) (x := .inr (ci, ((List.range (nfl ci)).map (fun k => rv G.1 (fvl σ o ci k))).set k (.int v))) (by
    rw [cel_o ho hc, map_set (g := fun j => rv G.1 (fvl (uI σ o k v) o ci j))]
    intro j
    rw [fvl_uI (Or.inl ht)]
    split <;> rfl) (fun a ha => cel_uI ha)
  rw [hw] at hP hD
  exact kk p e R s m args below meth c H1 locs1 cells slots Qf ls C ⟨hP, hD, hS⟩ hl
theorem z_putB {o idx ci k : Nat} {v : Int32} (hd : decode M.2.1 pc = .ok (.putfield idx, 3)) (hf : FL M.1.cls idx ci k) (ho : kd o = ci) (hn : o < 105) (hc : ci < 12) (ht : fty ci k = 3) (hv : v = 0 ∨ v = 1) (kk : Z l G M d (pc + 3) L st (uI σ o k v) Q) : Z l G M d pc L (.int v :: .ref o :: st) σ Q := by
  intro p e R s m args below meth c H locs cells slots Qf ls C hR hl
  obtain ⟨q, h1, h2, h3⟩ := hf
  obtain ⟨q', ty, g1, g2, g3, g4, g5, g6⟩ := cls_all hc
  cases Option.some.inj (h1.symm.trans g1)
  refine va_put (C := q.1) (T := q.2.1) (N := q.2.2) C.1 C.2.1 C.2.2.2.2.1 (fun w hw => gtb_of (g2 w hw) (u_good hw)) ty g3 g4 C.2.2.2.1 C.2.2.2.2.2.1.2.1 hR.1 hR.2.1 hR.2.2 o (ws_at hn |>.trans (by rw [cel_o ho hc])) h1 k h2 (C.2.2.2.2.1 _ (gtb_of h3 rfl)) (fun _ h => h) ((g6 k h2).2.2 ht).2 (ty := .boolean) (v := .int v) (by rw [g3 k h2, ((g6 k h2).2.2 ht).1]) (by rcases hv with rfl | rfl <;> rfl) (by rcases hv with rfl | rfl <;> rfl) (by simp [g5]; exact h2) hd (fun H1 locs1 hP hD hS => ?_)
  have hw := ws_set (G := G) (σ := σ) (σ' := uI σ o k v) (o := o) (x := .inr (ci, ((List.range (nfl ci)).map (fun k => rv G.1 (fvl σ o ci k))).set k (.int v))) (by
    rw [cel_o ho hc, map_set (g := fun j => rv G.1 (fvl (uI σ o k v) o ci j))]
    intro j
    rw [fvl_uI (Or.inr ht)]
    split <;> rfl) (fun a ha => cel_uI ha)
  rw [hw] at hP hD
  exact kk p e R s m args below meth c H1 locs1 cells slots Qf ls C ⟨hP, hD, hS⟩ hl
theorem z_putJ {o idx ci k : Nat} {v : Int64} (hd : decode M.2.1 pc = .ok (.putfield idx, 3)) (hf : FL M.1.cls idx ci k) (ho : kd o = ci) (hn : o < 105) (hc : ci < 12) (ht : fty ci k = 1) (kk : Z l G M d (pc + 3) L st (uJ σ o k v) Q) : Z l G M d pc L (.long v :: .ref o :: st) σ Q := by
  intro p e R s m args below meth c H locs cells slots Qf ls C hR hl
  obtain ⟨q, h1, h2, h3⟩ := hf
  obtain ⟨q', ty, g1, g2, g3, g4, g5, g6⟩ := cls_all hc
  cases Option.some.inj (h1.symm.trans g1)
  refine va_put (C := q.1) (T := q.2.1) (N := q.2.2) C.1 C.2.1 C.2.2.2.2.1 (fun w hw => gtb_of (g2 w hw) (u_good hw)) ty g3 g4 C.2.2.2.1 C.2.2.2.2.2.1.2.1 hR.1 hR.2.1 hR.2.2 o (ws_at hn |>.trans (by rw [cel_o ho hc])) h1 k h2 (C.2.2.2.2.1 _ (gtb_of h3 rfl)) (fun _ h => h) ((g6 k h2).2.1 ht).2 (ty := .long) (v := .long v) (by rw [g3 k h2, ((g6 k h2).2.1 ht).1]) rfl rfl (by simp [g5]; exact h2) hd (fun H1 locs1 hP hD hS => ?_)
  have hw := ws_set (G := G) (σ := σ) (σ' := uJ σ o k v) (o := o) (x := .inr (ci, ((List.range (nfl ci)).map (fun k => rv G.1 (fvl σ o ci k))).set k (.long v))) (by
    rw [cel_o ho hc, map_set (g := fun j => rv G.1 (fvl (uJ σ o k v) o ci j))]
    intro j
    rw [fvl_uJ ht]
    split <;> rfl) (fun a ha => cel_uJ ha)
  rw [hw] at hP hD
  exact kk p e R s m args below meth c H1 locs1 cells slots Qf ls C ⟨hP, hD, hS⟩ hl
theorem z_iald {o : Nat} {i : Int32} (hd : decode M.2.1 pc = .ok (.iaload, 1)) (ho : kd o = 12) (hn : o < 105) (hi : vp_in i (ln o)) (kk : Z l G M d (pc + 1) L (.int (σ.1 o i.toNatClampNeg) :: st) σ Q) : Z l G M d pc L (.int i :: .ref o :: st) σ Q := by
  intro p e R s m args below meth c H locs cells slots Qf ls C hR hl
  exact va_iald C.1 C.2.1 C.2.2.2.2.2.1.2.1 hR.1 o 0 (ws_at hn |>.trans (by rw [cel_I ho])) rfl hi hd (kk p e R s m args below meth c H locs cells slots Qf ls C hR hl)
theorem z_zald {o : Nat} {i : Int32} (hd : decode M.2.1 pc = .ok (.baload, 1)) (ho : kd o = 14) (hn : o < 105) (hi : vp_in i (ln o)) (kk : Z l G M d (pc + 1) L (.int (σ.1 o i.toNatClampNeg) :: st) σ Q) : Z l G M d pc L (.int i :: .ref o :: st) σ Q := by
  intro p e R s m args below meth c H locs cells slots Qf ls C hR hl
  exact va_zald C.1 C.2.1 C.2.2.2.2.2.1.2.1 hR.1 o 2 (ws_at hn |>.trans (by rw [cel_B ho])) rfl hi hd (kk p e R s m args below meth c H locs cells slots Qf ls C hR hl)
theorem z_lald {o : Nat} {i : Int32} (hd : decode M.2.1 pc = .ok (.laload, 1)) (ho : kd o = 13) (hn : o < 105) (hi : vp_in i (ln o)) (kk : Z l G M d (pc + 1) L (.long (σ.2 o i.toNatClampNeg) :: st) σ Q) : Z l G M d pc L (.int i :: .ref o :: st) σ Q := by
  intro p e R s m args below meth c H locs cells slots Qf ls C hR hl
  exact va_lald C.1 C.2.1 C.2.2.2.2.2.1.2.1 hR.1 o 1 (ws_at hn |>.trans (by rw [cel_J ho])) rfl hi hd (kk p e R s m args below meth c H locs cells slots Qf ls C hR hl)
theorem z_aald {o t : Nat} {i : Int32} (hd : decode M.2.1 pc = .ok (.aaload, 1)) (ho : kd o = 15 ∨ kd o = 16) (hn : o < 105) (hi : vp_in i (ln o)) (hr : rfo o i.toNatClampNeg = t) (kk : Z l G M d (pc + 1) L (.ref t :: st) σ Q) : Z l G M d pc L (.int i :: .ref o :: st) σ Q := by
  intro p e R s m args below meth c H locs cells slots Qf ls C hR hl
  subst hr
  rcases ho with ho | ho
  · exact va_aldq (f := fun i => some (G.1 (rfo o i))) (C := "FurrowField$Bed") C.1 C.2.1 C.2.2.2.2.2.1.2.1 hR.1 o 3 (ws_at hn |>.trans (by rw [cel_R (c := 0) ho])) rfl hi hd (kk p e R s m args below meth c H locs cells slots Qf ls C hR hl)
  · exact va_aldq (f := fun i => some (G.1 (rfo o i))) (C := "FurrowField$Plant") C.1 C.2.1 C.2.2.2.2.2.1.2.1 hR.1 o 4 (ws_at hn |>.trans (by rw [cel_R (c := 1) ho])) rfl hi hd (kk p e R s m args below meth c H locs cells slots Qf ls C hR hl)
theorem upd_uI {σ : Sg} {o k : Nat} {v : Int32} : (uI σ o k v).1 o = upd (σ.1 o) k v := by
  funext b
  by_cases h : b = k <;> simp [uI, upd, h]
theorem upd_uJ {σ : Sg} {o k : Nat} {v : Int64} : (uJ σ o k v).2 o = vp_updL (σ.2 o) k v := by
  funext b
  by_cases h : b = k <;> simp [uJ, vp_updL, h]
theorem z_iast {o : Nat} {i v : Int32} (hd : decode M.2.1 pc = .ok (.iastore, 1)) (ho : kd o = 12) (hn : o < 105) (hi : vp_in i (ln o)) (kk : Z l G M d (pc + 1) L st (uI σ o i.toNatClampNeg v) Q) : Z l G M d pc L (.int v :: .int i :: .ref o :: st) σ Q := by
  intro p e R s m args below meth c H locs cells slots Qf ls C hR hl
  refine va_iast C.1 C.2.1 C.2.2.2.2.2.1.2.1 hR.1 hR.2.1 hR.2.2 o 0 (ws_at hn |>.trans (by rw [cel_I ho])) rfl hi hd (fun H1 locs1 hP hD hS => ?_)
  have hw := ws_set (G := G) (σ := σ) (σ' := uI σ o i.toNatClampNeg v) (o := o) (by rw [cel_I ho, upd_uI]) (fun a ha => cel_uI ha)
  rw [hw] at hP hD
  exact kk p e R s m args below meth c H1 locs1 cells slots Qf ls C ⟨hP, hD, hS⟩ hl
theorem z_zast {o : Nat} {i v : Int32} (hd : decode M.2.1 pc = .ok (.bastore, 1)) (ho : kd o = 14) (hn : o < 105) (hi : vp_in i (ln o)) (hv : v = 0 ∨ v = 1) (kk : Z l G M d (pc + 1) L st (uI σ o i.toNatClampNeg v) Q) : Z l G M d pc L (.int v :: .int i :: .ref o :: st) σ Q := by
  intro p e R s m args below meth c H locs cells slots Qf ls C hR hl
  refine va_zast C.1 C.2.1 C.2.2.2.2.2.1.2.1 hR.1 hR.2.1 hR.2.2 o 2 (ws_at hn |>.trans (by rw [cel_B ho])) rfl hi hd (fun H1 locs1 hP hD hS => ?_)
  have hnv : vp_nar .boolean v = v := by rcases hv with rfl | rfl <;> rfl
  rw [hnv] at hP hD
  have hw := ws_set (G := G) (σ := σ) (σ' := uI σ o i.toNatClampNeg v) (o := o) (by rw [cel_B ho, upd_uI]) (fun a ha => cel_uI ha)
  rw [hw] at hP hD
  exact kk p e R s m args below meth c H1 locs1 cells slots Qf ls C ⟨hP, hD, hS⟩ hl
theorem z_last {o : Nat} {i : Int32} {v : Int64} (hd : decode M.2.1 pc = .ok (.lastore, 1)) (ho : kd o = 13) (hn : o < 105) (hi : vp_in i (ln o)) (kk : Z l G M d (pc + 1) L st (uJ σ o i.toNatClampNeg v) Q) : Z l G M d pc L (.long v :: .int i :: .ref o :: st) σ Q := by
  intro p e R s m args below meth c H locs cells slots Qf ls C hR hl
  refine va_last C.1 C.2.1 C.2.2.2.2.2.1.2.1 hR.1 hR.2.1 hR.2.2 o 1 (ws_at hn |>.trans (by rw [cel_J ho])) rfl hi hd (fun H1 locs1 hP hD hS => ?_)
  have hw := ws_set (G := G) (σ := σ) (σ' := uJ σ o i.toNatClampNeg v) (o := o) (by rw [cel_J ho, upd_uJ]) (fun a ha => cel_uJ ha)
  rw [hw] at hP hD
  exact kk p e R s m args below meth c H1 locs1 cells slots Qf ls C ⟨hP, hD, hS⟩ hl
theorem z_alenI {o : Nat} (hd : decode M.2.1 pc = .ok (.arraylength, 1)) (ho : kd o = 12) (hn : o < 105) (kk : Z l G M d (pc + 1) L (.int (Int32.ofNat (ln o)) :: st) σ Q) : Z l G M d pc L (.ref o :: st) σ Q := by
  intro p e R s m args below meth c H locs cells slots Qf ls C hR hl
  exact va_alen (x := (ln o, .inl (σ.1 o))) C.1 C.2.1 C.2.2.2.2.2.1.2.1 hR.1 o 0 (ws_at hn |>.trans (by rw [cel_I ho])) rfl rfl hd (kk p e R s m args below meth c H locs cells slots Qf ls C hR hl)
/-- what is read and never written -/
theorem z_roald {o : Nat} {i : Int32} (hd : decode M.2.1 pc = .ok (.iaload, 1)) (h1 : 105 ≤ o) (h2 : o < 108) (hi : vp_in i (rol G o)) (kk : Z l G M d (pc + 1) L (.int (roc G o i.toNatClampNeg) :: st) σ Q) : Z l G M d pc L (.int i :: .ref o :: st) σ Q := by
  intro p e R s m args below meth c H locs cells slots Qf ls C hR hl
  exact va_ti C.1 C.2.1 (C.2.2.2.2.2.1.2.2.1 o h1 h2) hR.2.2 hi rfl hd (kk p e R s m args below meth c H locs cells slots Qf ls C hR hl)
theorem z_rolen {o : Nat} (hd : decode M.2.1 pc = .ok (.arraylength, 1)) (h1 : 105 ≤ o) (h2 : o < 108) (kk : Z l G M d (pc + 1) L (.int (Int32.ofNat (rol G o)) :: st) σ Q) : Z l G M d pc L (.ref o :: st) σ Q := by
  intro p e R s m args below meth c H locs cells slots Qf ls C hR hl
  exact va_tlen C.1 C.2.1 (C.2.2.2.2.2.1.2.2.1 o h1 h2) hR.2.2 rfl hd (kk p e R s m args below meth c H locs cells slots Qf ls C hR hl)
end ZH
end
section
/-! calls -/
def rmd (d : Nat) : Room := { frames := d, cells := 0, slots := 0, locals := 64 * d }
def wsM (M : Mt) : List Cond := Cond.code M.1 M.2.1 M.2.2.1 M.2.2.2 :: gtb
def PcZ (G : Gx) (as : List Value) (σ : Sg) : Array Value → State → Prop := fun v U => v = (as.map (rv G.1)).toArray ∧ va_P G.2.1 vwCl (wsG G σ) U.heap ∧ va_D G.2.2.2.1 (wsG G σ) ∧ Ft G U
def QcZ (G : Gx) (Q : Option Value → Sg → Prop) : Array Value → State → Outcome → State → Prop := fun _ st oc t => (∃ (v : Option Value) (σ : Sg), oc = .returned (v.map (rv G.1)) ∧ Q v σ ∧ va_P G.2.1 vwCl (wsG G σ) t.heap ∧ va_D G.2.2.2.1 (wsG G σ)) ∧ va_F G.2.2.2.1 st t
/-- the locals at a method's entry -/
def ent : List Value → Lc
  | [] => []
  | v :: r => match v.category with
    | 2 => some v :: none :: ent r
    | _ => some v :: ent r
theorem ent_args (α : Nat → Nat) : ∀ (as : List Value) (j i : Nat) (v : Value), (ent as)[i]? = some (some v) → (j + i, rv α v) ∈ lv_args j (as.map (rv α))
  | [], j, i, v, h => by simp [ent] at h
  | w :: r, j, i, v, h => by
    have hc := rv_cat α w
    by_cases h2 : w.category = 2
    · have he : ent (w :: r) = some w :: none :: ent r := by simp [ent, h2]
      rw [he] at h
      show _ ∈ lv_args j (rv α w :: r.map (rv α))
      unfold lv_args
      rw [hc, h2]
      match i, h with
      | 0, h => simp at h; subst h; exact List.mem_cons_self
      | 1, h => simp at h
      | i + 2, h =>
        refine List.mem_cons_of_mem _ ?_
        have := ent_args α r (j + 2) i v (by simpa using h)
        simpa [Nat.add_assoc, Nat.add_comm 2 i] using this
    · have he : ent (w :: r) = some w :: ent r := by
        rw [ent]
        split
        · rename_i hh; exact absurd hh h2
        · rfl
      rw [he] at h
      show _ ∈ lv_args j (rv α w :: r.map (rv α))
      unfold lv_args
      rw [hc, if_neg h2]
      match i, h with
      | 0, h => simp at h; subst h; exact List.mem_cons_self
      | i + 1, h =>
        refine List.mem_cons_of_mem _ ?_
        have := ent_args α r (j + 1) i v (by simpa using h)
        simpa [Nat.add_assoc, Nat.add_comm 1 i] using this
theorem nst_on {w : Cond} (h : nstM w) : w.onTables = true := by
  rcases h with ⟨a, i, x, h, rfl⟩ | ⟨a, i, b, n, d, h, rfl⟩ <;> rfl
theorem nst_warm {w : Cond} {s U : State} (hW : s.WarmedH U.vm) (h : nstM w) (hz : va_Nw w s) : va_Nw w U := by
  rcases h with ⟨a, i, x, h, rfl⟩ | ⟨a, i, b, n, d, h, rfl⟩
  · exact va_Nw.warmM hW hz
  · exact va_Nw.warmF hW hz
theorem ft_moved {G : Gx} {s U : State} {H : Heap} {locs : List Loc} (hN : ∀ w, nstM w → va_Nw w s → va_Nw w U) (h : Ft G s) (hU : U.heap = H) (hS : va_S G.2.2.2.1 s.heap H locs) (hvm : s.vm.Alike U.vm) : Ft G U := by
  obtain ⟨h0, h1, h2, h3, h4⟩ := h
  refine ⟨fun w hw hq => hN w hq (h0 w hw hq), va_K.moved hvm h1, fun o a b => ?_, ?_, ?_⟩
  · have := (h2 o a b).kept (H1 := U.heap) (fun q q1 q2 => by rw [hU]; exact hS.2.1 q q1 q2)
    exact va_T.moved hvm this
  · exact va_Z.moved hvm (h3.kept (H1 := U.heap) (fun q q1 q2 => by rw [hU]; exact hS.2.1 q q1 q2))
  · exact va_Z.moved hvm (h4.kept (H1 := U.heap) (fun q q1 q2 => by rw [hU]; exact hS.2.1 q q1 q2))
set_option maxHeartbeats 4000000 in
theorem met_of {l : Launch} {G : Gx} {M : Mt} {d : Nat} {as : List Value} {σ : Sg} {Q : Option Value → Sg → Prop} (hy : plainName M.1.cls = true) (hlen : (lg_sl (as.map (rv G.1))).length ≤ M.2.2.1) (hz : Z l G M d 0 (ent as) [] σ Q) : Met l M.1 (wsM M) (rmd d) (PcZ G as σ) (QcZ G Q) 0 0 G.2.2.2.1 := by
  refine Met.ofW (cc := M.2.1) (maxL := M.2.2.1) (ret := M.2.2.2) hy rfl ?_
  intro p e s m args below meth c s₁ B hml hv
  obtain ⟨rfl, hP, hD, hF⟩ := hv
  have hts := atoms_spec (ws := wsM M) B.pre
  have hlocks := B.notSynchronized
  have hl := lv_entry (as.map (rv G.1)) (n := M.2.2.1) hlen
  rw [lg_entry_eq]
  refine hz p e _ s m _ below meth c s.heap [] 0 0 _ _ ⟨B.exec, B.bytes, hml, findClass_of_methodNamed B.named, fun w hw => hts w (List.mem_cons_of_mem _ hw), hF, Nat.le_refl _, Nat.le_refl _, Nat.zero_le _, Nat.zero_le _, ?_⟩ ⟨hP, hD, va_S.rf⟩ ⟨hl.1, hl.2.1, fun i v h => hl.2.2 (i, rv G.1 v) (by simpa using ent_args G.1 as 0 i v h)⟩
  intro pc v σ' H locs ls hq hR hrt
  have hfree : ∀ q ∈ locs, G.2.2.2.1 q.base := hR.2.2.2.2
  have hqc : ∀ t : State, t.heap = H → s.WarmedH t.vm → QcZ G Q (as.map (rv G.1)).toArray s (.returned (v.map (rv G.1))) t := fun t ht hW => ⟨⟨v, σ', rfl, hq, by rw [ht]; exact hR.1, hR.2.1⟩, hR.2.2.F ht⟩
  cases v with
  | none =>
    obtain ⟨h1, h2⟩ := hrt
    exact W.vret B.exec B.bytes (B.returns.trans h2) hqc hfree h1
  | some v =>
    cases v with
    | int x =>
      obtain ⟨h1, ty, h2, h3⟩ := hrt
      exact W.zret B.exec B.bytes (B.returns.trans h2) h3 hqc hfree h1
    | long x =>
      obtain ⟨h1, h2⟩ := hrt
      exact W.lret B.exec B.bytes (B.returns.trans h2) hqc hfree h1
    | ref a =>
      obtain ⟨h1, ty, h2, h3⟩ := hrt
      exact W.aret B.exec B.bytes (B.returns.trans h2) h3 (Or.inr ⟨_, rfl⟩) hqc hfree h1
    | float _ => exact absurd hrt (by simp [Rt])
    | double _ => exact absurd hrt (by simp [Rt])
    | null => exact absurd hrt (by simp [Rt])
    | retAddr _ => exact absurd hrt (by simp [Rt])
theorem pcz_blind {G : Gx} {as : List Value} {σ : Sg} : FrameBlind (PcZ G as σ) := by
  intro a U g mk h
  obtain ⟨h1, h2, h3, h4⟩ := h
  exact ⟨h1, h2, h3, ft_moved (s := U) (U := U.calling g mk a) (locs := []) (fun w hw hz => va_Nw.same (u := U) (nst_on hw) rfl hz) h4 rfl va_S.rf (Vm.Alike.refl U.vm)⟩
theorem gi_M {M : Mt} (h : Cond.code M.1 M.2.1 M.2.2.1 M.2.2.2 ∈ lw_tbl) : GoodIn gtb (wsM M) := by
  intro w hw
  have hm : w ∈ gtb := by
    rcases List.mem_cons.mp hw with rfl | hw
    · exact gtb_of h rfl
    · exact hw
  exact ⟨hm, good_of_word (List.mem_filter.mp hm).2⟩
/-- a call of an instance method of class ci, as a method of class own links it -/
def CV (own : String) (idx : Nat) (M : Mt) (ci n : Nat) : Prop := Cond.code M.1 M.2.1 M.2.2.1 M.2.2.2 ∈ lw_tbl ∧ Cond.methodLink own idx M.1 ∈ lw_tbl ∧ Cond.instanceMethod M.1 ∈ lw_tbl ∧ Cond.selects M.1.cls M.1 M.1 ∈ lw_tbl ∧ Cond.initialized M.1.cls ∈ lw_tbl ∧ (∃ q, vwCl[ci]? = some q ∧ q.1 = M.1.cls) ∧ plainName M.1.cls = true ∧ M.1.cls ≠ "java/lang/invoke/MethodHandle" ∧ M.1.cls ≠ "java/lang/invoke/VarHandle" ∧ (parseMethodDescriptor M.1.desc).map (fun d => d.parameters.length) = some n ∧ M.2.2.1 ≤ 45
/-- a call of a static method -/
def CS (own : String) (idx : Nat) (M : Mt) (n : Nat) : Prop := Cond.code M.1 M.2.1 M.2.2.1 M.2.2.2 ∈ lw_tbl ∧ Cond.static M.1 ∈ lw_tbl ∧ Cond.initialized M.1.cls ∈ lw_tbl ∧ plainName M.1.cls = true ∧ M.1.cls ≠ "java/lang/invoke/MethodHandle" ∧ M.1.cls ≠ "java/lang/invoke/VarHandle" ∧ (parseMethodDescriptor M.1.desc).map (fun d => d.parameters.length) = some n ∧ M.2.2.1 ≤ 45 ∧ (Cond.methodLink own idx M.1 ∈ lw_tbl ∨ ∃ host, Cond.methodLinkNest own idx M.1 host ∈ lw_tbl)
/-- what comes upon the stack -/
def psh (v : Option Value) (st : List Value) : List Value := match v with
  | none => st
  | some x => x :: st
section ZC
variable {l : Launch} {G : Gx} {M : Mt} {d pc : Nat} {L : Lc} {st : List Value} {σ : Sg} {Q : Option Value → Sg → Prop}
theorem z_after {p : Program} {e : Env} {R : Room} {s : State} {m : MethodId} {args : Array Value} {below : List Frame} {meth : Method} {c : Code} {H : Heap} {locs : List Loc} {cells slots : Nat} {Qf : State → Prop} {ls : Array Slot} {st0 : List Value} {a : Array Value}
    (hr : va_Run p l e R s m args below meth c H locs cells slots 0 0 (F0 m pc ls st0) (st.map (rv G.1)) (QcZ G (fun v σ' => Z l G M d (pc + 3) L (psh v st) σ' Q) a) G.2.2.2.1) (C : Cx l G M d Q p e R s m args below meth c cells slots Qf) (hR : RH G σ s.heap H locs) (hl : lhas G.1 L M.2.2.1 ls) : W p l e R s m args below meth c H locs cells slots Qf (F0 m pc ls st0) := by
  intro T hT X
  obtain ⟨v, st₀, t, T', L1, h0, X', hL, e1, e2, ⟨⟨w, σ', hv, hq, hP, hD⟩, hz, hk⟩, go⟩ := hr T hT X
  cases hv
  rw [h0] at hz hk
  have hS : va_S G.2.2.2.1 s.heap T'.heap (locs ++ L1) := ⟨Nat.le_trans hR.2.2.1 (by rw [e1]; exact hz), fun q h1 h2 => by rw [e1, hk q (Nat.lt_of_lt_of_le h1 hR.2.2.1) h2]; exact hR.2.2.2.1 q h1 h2, fun q hq => by
      rcases List.mem_append.mp hq with h | h
      · exact hR.2.2.2.2 q h
      · exact hL q h⟩
  obtain ⟨t2, a1, b1⟩ := hq p e R s m args below meth c T'.heap (locs ++ L1) cells slots Qf ls C ⟨by rw [e1]; exact hP, hD, hS⟩ hl T' rfl X'
  refine ⟨t2, go t2 ?_, b1⟩
  have : (w.map (rv G.1)).toList ++ st.map (rv G.1) = (psh w st).map (rv G.1) := by cases w <;> rfl
  show Steps p.tables e below (T'.setTop (F0 m (pc + 3) ls ((w.map (rv G.1)).toList ++ st.map (rv G.1)))) t2
  rw [this]
  exact a1
set_option maxHeartbeats 4000000 in
theorem z_iv {idx o ci n : Nat} {M' : Mt} (As : List Value) (hd : decode M.2.1 pc = .ok (.invokevirtual idx, 3)) (hc : CV M.1.cls idx M' ci n) (ho : kd o = ci) (hn : o < 105) (hci : ci < 12) (hA : As.length = n) (hsl : Nat.ble ((ent (.ref o :: As)).length) M'.2.2.1 = true) (hW : Nat.ble ((st.map fun v => v.category).sum) 8 = true)
    (k : Z l G M' d 0 (ent (.ref o :: As)) [] σ (fun v σ' => Z l G M (d + 1) (pc + 3) L (psh v st) σ' Q)) : Z l G M (d + 1) pc L (As.reverse ++ .ref o :: st) σ Q := by
  intro p e R s m args below meth c H locs cells slots Qf ls C hR hl
  obtain ⟨c1, c2, c3, c4, c5, ⟨q, c6, c6'⟩, c7, c8, c9, c10, c11⟩ := hc
  have hlen : ∀ as : List Value, (lg_sl (as.map (rv G.1))).length = (ent as).length := by
    intro as
    induction as with
    | nil => rfl
    | cons w r ih =>
      have hcat := rv_cat G.1 w
      by_cases h2 : w.category = 2
      · have he : ent (w :: r) = some w :: none :: ent r := by simp [ent, h2]
        rw [he]
        show (lg_sl (rv G.1 w :: r.map (rv G.1))).length = _
        simp only [lg_sl, List.flatMap_cons, hcat, h2, if_true, List.length_append, List.length_cons, List.length_nil] at ih ⊢
        omega
      · have he : ent (w :: r) = some w :: ent r := by
          rw [ent]
          split
          · rename_i hh; exact absurd hh h2
          · rfl
        rw [he]
        show (lg_sl (rv G.1 w :: r.map (rv G.1))).length = _
        simp only [lg_sl, List.flatMap_cons, hcat, h2, if_false, List.length_append, List.length_cons, List.length_nil] at ih ⊢
        omega
  have hM := met_of (l := l) (G := G) (M := M') (d := d) (as := .ref o :: As) c7 (by rw [hlen]; exact Nat.le_of_ble_eq_true hsl) k
  have hts := C.2.2.2.2.1
  have hcb : CallB R s args M.1.cls idx M'.1 M'.2.1 M'.2.2.1 M'.2.2.2 (wsM M') (rmd d) 0 0 n := callB_of n hts (gi_M c1) rfl rfl rfl (hts _ (gtb_of c5 rfl)) (hts _ (gtb_of c2 rfl)) ⟨c8, c9, c10⟩ ⟨by have := C.2.2.2.2.2.2.1; simp only [rmd]; omega, by have := C.2.2.2.2.2.2.2.1; simp only [rmd]; omega⟩
  have hq0 : (wsG G σ)[o]? = some (G.1 o, .inr (ci, (List.range (nfl ci)).map (fun k => rv G.1 (fvl σ o ci k)))) := ws_at hn |>.trans (by rw [cel_o ho hci])
  refine z_after (st := st) (a := ((.ref o :: As).map (rv G.1)).toArray) ?_ C hR hl
  have hrun := va_runV (l := l) (e := e) (below := below) (meth := meth) (H := H) (locs := locs) (cells := cells) (slots := slots) (C := M'.1.cls) (b := G.1 o) (As := As.map (rv G.1)) (rest := st.map (rv G.1)) (g := F0 m pc ls ((As.reverse ++ .ref o :: st).map (rv G.1))) (n := n) (mc := 0) (ms := 0) (S := ⟨C.1, C.2.1, C.2.2.1, C.2.2.2.1, hts⟩) hM ⟨hcb, hts _ (gtb_of c3 rfl), hts _ (gtb_of c4 rfl)⟩ ⟨pcz_blind, by rw [← c6']; exact va_recv C.2.2.2.2.2.1.2.1 hR.1 c6 hq0, fun U hU hW => ⟨rfl, by rw [hU]; exact hR.1, hR.2.1, ft_moved (fun w hw hz => nst_warm hW hw hz) C.2.2.2.2.2.1 hU hR.2.2 hW.alike⟩⟩ rfl (by simpa using hA) hl.1 (by simp [rv]) (by
      have := Nat.le_of_ble_eq_true hW
      exact lv_room (by rw [rv_cats]; exact this)) hd ⟨C.2.2.2.2.2.2.2.2.1, C.2.2.2.2.2.2.2.2.2.1⟩
  exact hrun
end ZC
end
section
/-! static calls, calls by arity, static fields, Math, arraycopy -/
section ZD
variable {l : Launch} {G : Gx} {M : Mt} {d pc : Nat} {L : Lc} {st : List Value} {σ : Sg} {Q : Option Value → Sg → Prop}
theorem ent_len (α : Nat → Nat) : ∀ as : List Value, (lg_sl (as.map (rv α))).length = (ent as).length := by
    intro as
    induction as with
    | nil => rfl
    | cons w r ih =>
      have hcat := rv_cat α w
      by_cases h2 : w.category = 2
      · have he : ent (w :: r) = some w :: none :: ent r := by simp [ent, h2]
        rw [he]
        show (lg_sl (rv α w :: r.map (rv α))).length = _
        simp only [lg_sl, List.flatMap_cons, hcat, h2, if_true, List.length_append, List.length_cons, List.length_nil] at ih ⊢
        omega
      · have he : ent (w :: r) = some w :: ent r := by
          rw [ent]
          split
          · rename_i hh; exact absurd hh h2
          · rfl
        rw [he]
        show (lg_sl (rv α w :: r.map (rv α))).length = _
        simp only [lg_sl, List.flatMap_cons, hcat, h2, if_false, List.length_append, List.length_cons, List.length_nil] at ih ⊢
        omega
set_option maxHeartbeats 4000000 in
theorem z_is {idx n : Nat} {M' : Mt} (As : List Value) (hd : decode M.2.1 pc = .ok (.invokestatic idx, 3)) (hc : CS M.1.cls idx M' n) (hA : As.length = n) (hsl : Nat.ble ((ent As).length) M'.2.2.1 = true) (hW : Nat.ble ((st.map fun v => v.category).sum) 8 = true)
    (k : Z l G M' d 0 (ent As) [] σ (fun v σ' => Z l G M (d + 1) (pc + 3) L (psh v st) σ' Q)) : Z l G M (d + 1) pc L (As.reverse ++ st) σ Q := by
  intro p e R s m args below meth c H locs cells slots Qf ls C hR hl
  obtain ⟨c1, c2, c5, c7, c8, c9, c10, c11, c12⟩ := hc
  have hM := met_of (l := l) (G := G) (M := M') (d := d) (as := As) c7 (by rw [ent_len]; exact Nat.le_of_ble_eq_true hsl) k
  have hts := C.2.2.2.2.1
  have hroom : (rmd d).frames + 1 ≤ R.frames ∧ 8 + (M'.2.2.1 + 11) + (rmd d).locals ≤ R.locals := ⟨by have := C.2.2.2.2.2.2.1; simp only [rmd]; omega, by have := C.2.2.2.2.2.2.2.1; simp only [rmd]; omega⟩
  refine z_after (st := st) (a := (As.map (rv G.1)).toArray) ?_ C hR hl
  rcases c12 with c12 | ⟨host, c12⟩
  · have hcb : CallB R s args M.1.cls idx M'.1 M'.2.1 M'.2.2.1 M'.2.2.2 (wsM M') (rmd d) 0 0 n := callB_of n hts (gi_M c1) rfl rfl rfl (hts _ (gtb_of c5 rfl)) (hts _ (gtb_of c12 rfl)) ⟨c8, c9, c10⟩ hroom
    have hrun := va_runS (l := l) (e := e) (below := below) (meth := meth) (H := H) (locs := locs) (cells := cells) (slots := slots) (As := As.map (rv G.1)) (rest := st.map (rv G.1)) (g := F0 m pc ls ((As.reverse ++ st).map (rv G.1))) (n := n) (mc := 0) (ms := 0) (S := ⟨C.1, C.2.1, C.2.2.1, C.2.2.2.1, hts⟩) hM ⟨hcb, hts _ (gtb_of c2 rfl)⟩ ⟨pcz_blind, fun U hU hW => ⟨rfl, by rw [hU]; exact hR.1, hR.2.1, ft_moved (fun w hw hz => nst_warm hW hw hz) C.2.2.2.2.2.1 hU hR.2.2 hW.alike⟩⟩ rfl (by simpa using hA) hl.1 (by simp) (by
      have := Nat.le_of_ble_eq_true hW
      exact lv_room (by rw [rv_cats]; exact this)) hd ⟨C.2.2.2.2.2.2.2.2.1, C.2.2.2.2.2.2.2.2.2.1⟩
    exact hrun
  · have hcb : va_CN R s args M.1.cls idx M'.1 host M'.2.1 M'.2.2.1 M'.2.2.2 (wsM M') (rmd d) 0 0 n := va_cnB n hts (gi_M c1) rfl rfl rfl (C.2.2.2.2.2.1.1 _ c12 (Or.inl ⟨_, _, _, _, rfl⟩)) (hts _ (gtb_of c5 rfl)) ⟨c8, c9, c10⟩ hroom
    have hrun := va_runSN (l := l) (e := e) (below := below) (meth := meth) (H := H) (locs := locs) (cells := cells) (slots := slots) (As := As.map (rv G.1)) (rest := st.map (rv G.1)) (g := F0 m pc ls ((As.reverse ++ st).map (rv G.1))) (n := n) (mc := 0) (ms := 0) (S := ⟨C.1, C.2.1, C.2.2.1, C.2.2.2.1, hts⟩) hM ⟨hcb, hts _ (gtb_of c2 rfl), trivial⟩ ⟨pcz_blind, fun U hU hW => ⟨rfl, by rw [hU]; exact hR.1, hR.2.1, ft_moved (fun w hw hz => nst_warm hW hw hz) C.2.2.2.2.2.1 hU hR.2.2 hW.alike⟩⟩ rfl (by simpa using hA) hl.1 (by simp) (by
      have := Nat.le_of_ble_eq_true hW
      exact lv_room (by rw [rv_cats]; exact this)) hd ⟨C.2.2.2.2.2.2.2.2.1, C.2.2.2.2.2.2.2.2.2.1⟩
    exact hrun
theorem z_iv0 {idx o ci : Nat} {M' : Mt} (hd : decode M.2.1 pc = .ok (.invokevirtual idx, 3)) (hc : CV M.1.cls idx M' ci 0) (ho : kd o = ci) (hn : o < 105) (hci : ci < 12) (hsl : Nat.ble ((ent (.ref o :: [])).length) M'.2.2.1 = true) (hW : Nat.ble ((st.map fun v => v.category).sum) 8 = true) (k : Z l G M' d 0 (ent (.ref o :: [])) [] σ (fun v σ' => Z l G M (d + 1) (pc + 3) L (psh v st) σ' Q)) : Z l G M (d + 1) pc L (.ref o :: st) σ Q := z_iv [] hd hc ho hn hci rfl hsl hW k
theorem z_iv1 {idx o ci : Nat} {M' : Mt} {a1 : Value} (hd : decode M.2.1 pc = .ok (.invokevirtual idx, 3)) (hc : CV M.1.cls idx M' ci 1) (ho : kd o = ci) (hn : o < 105) (hci : ci < 12) (hsl : Nat.ble ((ent (.ref o :: [a1])).length) M'.2.2.1 = true) (hW : Nat.ble ((st.map fun v => v.category).sum) 8 = true) (k : Z l G M' d 0 (ent (.ref o :: [a1])) [] σ (fun v σ' => Z l G M (d + 1) (pc + 3) L (psh v st) σ' Q)) : Z l G M (d + 1) pc L (a1 :: .ref o :: st) σ Q := z_iv [a1] hd hc ho hn hci rfl hsl hW k
theorem z_is1 {idx : Nat} {M' : Mt} {a1 : Value} (hd : decode M.2.1 pc = .ok (.invokestatic idx, 3)) (hc : CS M.1.cls idx M' 1) (hsl : Nat.ble ((ent [a1]).length) M'.2.2.1 = true) (hW : Nat.ble ((st.map fun v => v.category).sum) 8 = true) (k : Z l G M' d 0 (ent [a1]) [] σ (fun v σ' => Z l G M (d + 1) (pc + 3) L (psh v st) σ' Q)) : Z l G M (d + 1) pc L (a1 :: st) σ Q := z_is [a1] hd hc rfl hsl hW k
theorem z_iv2 {idx o ci : Nat} {M' : Mt} {a1 a2 : Value} (hd : decode M.2.1 pc = .ok (.invokevirtual idx, 3)) (hc : CV M.1.cls idx M' ci 2) (ho : kd o = ci) (hn : o < 105) (hci : ci < 12) (hsl : Nat.ble ((ent (.ref o :: [a1, a2])).length) M'.2.2.1 = true) (hW : Nat.ble ((st.map fun v => v.category).sum) 8 = true) (k : Z l G M' d 0 (ent (.ref o :: [a1, a2])) [] σ (fun v σ' => Z l G M (d + 1) (pc + 3) L (psh v st) σ' Q)) : Z l G M (d + 1) pc L (a2 :: a1 :: .ref o :: st) σ Q := z_iv [a1, a2] hd hc ho hn hci rfl hsl hW k
theorem z_is2 {idx : Nat} {M' : Mt} {a1 a2 : Value} (hd : decode M.2.1 pc = .ok (.invokestatic idx, 3)) (hc : CS M.1.cls idx M' 2) (hsl : Nat.ble ((ent [a1, a2]).length) M'.2.2.1 = true) (hW : Nat.ble ((st.map fun v => v.category).sum) 8 = true) (k : Z l G M' d 0 (ent [a1, a2]) [] σ (fun v σ' => Z l G M (d + 1) (pc + 3) L (psh v st) σ' Q)) : Z l G M (d + 1) pc L (a2 :: a1 :: st) σ Q := z_is [a1, a2] hd hc rfl hsl hW k
theorem z_iv3 {idx o ci : Nat} {M' : Mt} {a1 a2 a3 : Value} (hd : decode M.2.1 pc = .ok (.invokevirtual idx, 3)) (hc : CV M.1.cls idx M' ci 3) (ho : kd o = ci) (hn : o < 105) (hci : ci < 12) (hsl : Nat.ble ((ent (.ref o :: [a1, a2, a3])).length) M'.2.2.1 = true) (hW : Nat.ble ((st.map fun v => v.category).sum) 8 = true) (k : Z l G M' d 0 (ent (.ref o :: [a1, a2, a3])) [] σ (fun v σ' => Z l G M (d + 1) (pc + 3) L (psh v st) σ' Q)) : Z l G M (d + 1) pc L (a3 :: a2 :: a1 :: .ref o :: st) σ Q := z_iv [a1, a2, a3] hd hc ho hn hci rfl hsl hW k
theorem z_is3 {idx : Nat} {M' : Mt} {a1 a2 a3 : Value} (hd : decode M.2.1 pc = .ok (.invokestatic idx, 3)) (hc : CS M.1.cls idx M' 3) (hsl : Nat.ble ((ent [a1, a2, a3]).length) M'.2.2.1 = true) (hW : Nat.ble ((st.map fun v => v.category).sum) 8 = true) (k : Z l G M' d 0 (ent [a1, a2, a3]) [] σ (fun v σ' => Z l G M (d + 1) (pc + 3) L (psh v st) σ' Q)) : Z l G M (d + 1) pc L (a3 :: a2 :: a1 :: st) σ Q := z_is [a1, a2, a3] hd hc rfl hsl hW k
theorem z_iv4 {idx o ci : Nat} {M' : Mt} {a1 a2 a3 a4 : Value} (hd : decode M.2.1 pc = .ok (.invokevirtual idx, 3)) (hc : CV M.1.cls idx M' ci 4) (ho : kd o = ci) (hn : o < 105) (hci : ci < 12) (hsl : Nat.ble ((ent (.ref o :: [a1, a2, a3, a4])).length) M'.2.2.1 = true) (hW : Nat.ble ((st.map fun v => v.category).sum) 8 = true) (k : Z l G M' d 0 (ent (.ref o :: [a1, a2, a3, a4])) [] σ (fun v σ' => Z l G M (d + 1) (pc + 3) L (psh v st) σ' Q)) : Z l G M (d + 1) pc L (a4 :: a3 :: a2 :: a1 :: .ref o :: st) σ Q := z_iv [a1, a2, a3, a4] hd hc ho hn hci rfl hsl hW k
theorem z_iv5 {idx o ci : Nat} {M' : Mt} {a1 a2 a3 a4 a5 : Value} (hd : decode M.2.1 pc = .ok (.invokevirtual idx, 3)) (hc : CV M.1.cls idx M' ci 5) (ho : kd o = ci) (hn : o < 105) (hci : ci < 12) (hsl : Nat.ble ((ent (.ref o :: [a1, a2, a3, a4, a5])).length) M'.2.2.1 = true) (hW : Nat.ble ((st.map fun v => v.category).sum) 8 = true) (k : Z l G M' d 0 (ent (.ref o :: [a1, a2, a3, a4, a5])) [] σ (fun v σ' => Z l G M (d + 1) (pc + 3) L (psh v st) σ' Q)) : Z l G M (d + 1) pc L (a5 :: a4 :: a3 :: a2 :: a1 :: .ref o :: st) σ Q := z_iv [a1, a2, a3, a4, a5] hd hc ho hn hci rfl hsl hW k
theorem z_getsIs {idx : Nat} (hd : decode M.2.1 pc = .ok (.getstatic idx, 3)) (hw : Cond.fieldLinkNest M.1.cls idx "FurrowField" "IS_TOO" "[I" "FurrowField" ∈ lw_tbl) (k : Z l G M d (pc + 3) L (.ref 106 :: st) σ Q) : Z l G M d pc L st σ Q := by
  intro p e R s m args below meth c H locs cells slots Qf ls C hR hl
  exact va_getsN C.1 C.2.1 C.2.2.2.2.2.1.2.2.2.1 hR.2.2 C.2.2.2.1 (va_Nw.use rfl (C.2.2.2.2.2.1.1 _ hw (Or.inr ⟨_, _, _, _, _, _, rfl⟩))) (fun _ h => h) hd (k p e R s m args below meth c H locs cells slots Qf ls C hR hl)
theorem z_getsBo {idx : Nat} (hd : decode M.2.1 pc = .ok (.getstatic idx, 3)) (hw : Cond.fieldLinkNest M.1.cls idx "FurrowField" "BODIES" "[I" "FurrowField" ∈ lw_tbl) (k : Z l G M d (pc + 3) L (.ref 107 :: st) σ Q) : Z l G M d pc L st σ Q := by
  intro p e R s m args below meth c H locs cells slots Qf ls C hR hl
  exact va_getsN C.1 C.2.1 C.2.2.2.2.2.1.2.2.2.2 hR.2.2 C.2.2.2.1 (va_Nw.use rfl (C.2.2.2.2.2.1.1 _ hw (Or.inr ⟨_, _, _, _, _, _, rfl⟩))) (fun _ h => h) hd (k p e R s m args below meth c H locs cells slots Qf ls C hR hl)
theorem z_mmaxi {idx : Nat} {x y : Int32} (hd : decode M.2.1 pc = .ok (.invokestatic idx, 3)) (hw : Cond.methodLink M.1.cls idx Lib.Math.max.name ∈ lw_tbl) (hs : Nat.ble ((st.map fun v => v.category).sum) 8 = true) (k : Z l G M (d + 1) (pc + 3) L (.int (if x < y then y else x) :: st) σ Q) : Z l G M (d + 1) pc L (.int y :: .int x :: st) σ Q := by
  intro p e R s m args below meth c H locs cells slots Qf ls C hR hl
  have hs' := Nat.le_of_ble_eq_true hs
  have hfr := C.2.2.2.2.2.2.1
  have hlo := C.2.2.2.2.2.2.2.1
  have hts := C.2.2.2.2.1
  exact va_mmax C.1 C.2.1 (C.2.2.1.trans hl.1.symm) C.2.2.2.1 (hts _ (gtb_of hw rfl)) (hts _ (gtb_of (by decide +kernel) rfl)) (hts _ (gtb_of (by decide +kernel) rfl)) (hts _ (gtb_of (by decide +kernel) rfl)) (by omega) (by rw [rv_cats]; omega) C.2.2.2.2.2.2.2.2.1 C.2.2.2.2.2.2.2.2.2.1 hd (k p e R s m args below meth c H locs cells slots Qf ls C hR hl)
theorem z_mmini {idx : Nat} {x y : Int32} (hd : decode M.2.1 pc = .ok (.invokestatic idx, 3)) (hw : Cond.methodLink M.1.cls idx Lib.Math.min.name ∈ lw_tbl) (hs : Nat.ble ((st.map fun v => v.category).sum) 8 = true) (k : Z l G M (d + 1) (pc + 3) L (.int (if y < x then y else x) :: st) σ Q) : Z l G M (d + 1) pc L (.int y :: .int x :: st) σ Q := by
  intro p e R s m args below meth c H locs cells slots Qf ls C hR hl
  have hs' := Nat.le_of_ble_eq_true hs
  have hfr := C.2.2.2.2.2.2.1
  have hlo := C.2.2.2.2.2.2.2.1
  have hts := C.2.2.2.2.1
  exact va_mmin C.1 C.2.1 (C.2.2.1.trans hl.1.symm) C.2.2.2.1 (hts _ (gtb_of hw rfl)) (hts _ (gtb_of (by decide +kernel) rfl)) (hts _ (gtb_of (by decide +kernel) rfl)) (hts _ (gtb_of (by decide +kernel) rfl)) (by omega) (by rw [rv_cats]; omega) C.2.2.2.2.2.2.2.2.1 C.2.2.2.2.2.2.2.2.2.1 hd (k p e R s m args below meth c H locs cells slots Qf ls C hR hl)
theorem z_mmaxl {idx : Nat} {x y : Int64} (hd : decode M.2.1 pc = .ok (.invokestatic idx, 3)) (hw : Cond.methodLink M.1.cls idx Lib.MathLoose.max_long.x ∈ lw_tbl) (hs : Nat.ble ((st.map fun v => v.category).sum) 8 = true) (k : Z l G M (d + 1) (pc + 3) L (.long (if y < x then x else y) :: st) σ Q) : Z l G M (d + 1) pc L (.long y :: .long x :: st) σ Q := by
  intro p e R s m args below meth c H locs cells slots Qf ls C hR hl
  have hs' := Nat.le_of_ble_eq_true hs
  have hfr := C.2.2.2.2.2.2.1
  have hlo := C.2.2.2.2.2.2.2.1
  have hts := C.2.2.2.2.1
  exact va_mmax_long C.1 C.2.1 (C.2.2.1.trans hl.1.symm) C.2.2.2.1 (hts _ (gtb_of hw rfl)) (hts _ (gtb_of (by decide +kernel) rfl)) (hts _ (gtb_of (by decide +kernel) rfl)) (hts _ (gtb_of (by decide +kernel) rfl)) (by omega) (by rw [rv_cats]; omega) C.2.2.2.2.2.2.2.2.1 C.2.2.2.2.2.2.2.2.2.1 hd (k p e R s m args below meth c H locs cells slots Qf ls C hR hl)
def cpJ (σ : Sg) (a sp b dp n : Nat) : Sg := (σ.1, fun o => if o = b then va_cpy (σ.2 a) (σ.2 b) sp dp n else σ.2 o)
theorem z_copyl {idx a b : Nat} {sp dp n : Int32} (hd : decode M.2.1 pc = .ok (.invokestatic idx, 3)) (hw : Cond.methodLink M.1.cls idx arraycopyName ∈ lw_tbl) (ha : kd a = 13) (hb : kd b = 13) (ha1 : a < 105) (hb1 : b < 105) (h1 : ¬ sp < 0) (h2 : ¬ dp < 0) (h3 : ¬ n < 0) (h4 : sp.toNatClampNeg + n.toNatClampNeg ≤ ln a) (h5 : dp.toNatClampNeg + n.toNatClampNeg ≤ ln b) (hs : Nat.ble ((st.map fun v => v.category).sum) 8 = true)
    (k : Z l G M (d + 1) (pc + 3) L st (cpJ σ a sp.toNatClampNeg b dp.toNatClampNeg n.toNatClampNeg) Q) : Z l G M (d + 1) pc L (.int n :: .int dp :: .ref b :: .int sp :: .ref a :: st) σ Q := by
  intro p e R s m args below meth c H locs cells slots Qf ls C hR hl
  have hs' := Nat.le_of_ble_eq_true hs
  have hfr := C.2.2.2.2.2.2.1
  have hlo := C.2.2.2.2.2.2.2.1
  have hts := C.2.2.2.2.1
  have hnw : nativeFrameWords "java/lang/System" "arraycopy" 5 = 7 := by decide +kernel
  refine va_copyl C.1 C.2.1 (C.2.2.1.trans hl.1.symm) C.2.2.2.1 (hts _ (gtb_of hw rfl)) (hts _ (gtb_of (by decide +kernel) rfl)) (hts _ (gtb_of (by decide +kernel) rfl)) (hts _ (gtb_of (by decide +kernel) rfl)) C.2.2.2.2.2.1.2.1 hR.1 hR.2.1 hR.2.2 a b 1 1 (f := σ.2 a) (g := σ.2 b) (n0 := ln a) (n1 := ln b) (ws_at ha1 |>.trans (by rw [cel_J ha])) (ws_at hb1 |>.trans (by rw [cel_J hb])) rfl rfl rfl h1 h2 h3 h4 h5 (fun i _ => rfl) (by omega) (by rw [rv_cats, hnw]; omega) hd (fun H1 locs1 hP hD hS => ?_)
  have hw := ws_set (G := G) (σ := σ) (σ' := cpJ σ a sp.toNatClampNeg b dp.toNatClampNeg n.toNatClampNeg) (o := b) (x := .inl (G.2.2.1 1, ln b, .inr (.inl (va_cpy (σ.2 a) (σ.2 b) sp.toNatClampNeg dp.toNatClampNeg n.toNatClampNeg)))) (by rw [cel_J hb]; simp [cpJ]) (fun z hz => cel_cong rfl (by simp [cpJ, hz]))
  rw [hw] at hP hD
  exact k p e R s m args below meth c H1 locs1 cells slots Qf ls C ⟨hP, hD, hS⟩ hl
end ZD
end
section
abbrev M_X0_init : Mt := (yX0_init, cX0_init, 1, none)
abbrev M_X0_lay : Mt := (yX0_lay, cX0_lay, 4, none)
abbrev M_X0_has : Mt := (yX0_has, cX0_has, 3, (some .boolean))
abbrev M_X0_narrowed : Mt := (yX0_narrowed, cX0_narrowed, 3, (some .long))
abbrev M_X1_init : Mt := (yX1_init, cX1_init, 1, none)
abbrev M_X2_init : Mt := (yX2_init, cX2_init, 1, none)
abbrev M_X2_depthAt : Mt := (yX2_depthAt, cX2_depthAt, 12, (some .int))
abbrev M_X2_isHere : Mt := (yX2_isHere, cX2_isHere, 2, (some .boolean))
abbrev M_X2_leastBeside : Mt := (yX2_leastBeside, cX2_leastBeside, 12, (some .int))
abbrev M_X2_findDeepest : Mt := (yX2_findDeepest, cX2_findDeepest, 5, none)
abbrev M_X2_considerCrossing : Mt := (yX2_considerCrossing, cX2_considerCrossing, 11, none)
abbrev M_X2_consider : Mt := (yX2_consider, cX2_consider, 10, none)
abbrev M_X2_isAhead : Mt := (yX2_isAhead, cX2_isAhead, 11, (some .boolean))
abbrev M_X2_tell : Mt := (yX2_tell, cX2_tell, 2, (some .long))
abbrev M_X3_init : Mt := (yX3_init, cX3_init, 1, none)
abbrev M_X3_peel : Mt := (yX3_peel, cX3_peel, 4, none)
abbrev M_X3_peelOne : Mt := (yX3_peelOne, cX3_peelOne, 5, (some .int))
abbrev M_X3_isIn : Mt := (yX3_isIn, cX3_isIn, 3, (some .boolean))
abbrev M_X3_isOnEdge : Mt := (yX3_isOnEdge, cX3_isOnEdge, 6, (some .boolean))
abbrev M_X3_isOneSided : Mt := (yX3_isOneSided, cX3_isOneSided, 9, (some .boolean))
abbrev M_X3_layerOf : Mt := (yX3_layerOf, cX3_layerOf, 2, (some .int))
abbrev M_X3_sizeOf : Mt := (yX3_sizeOf, cX3_sizeOf, 4, (some .int))
abbrev M_X4_init : Mt := (yX4_init, cX4_init, 1, none)
abbrev M_X4_become : Mt := (yX4_become, cX4_become, 5, none)
abbrev M_X4_join : Mt := (yX4_join, cX4_join, 8, none)
abbrev M_X4_sideOf : Mt := (yX4_sideOf, cX4_sideOf, 5, (some .int))
abbrev M_X5_init : Mt := (yX5_init, cX5_init, 1, none)
abbrev M_X5_gather : Mt := (yX5_gather, cX5_gather, 4, none)
abbrev M_X5_isFirstPair : Mt := (yX5_isFirstPair, cX5_isFirstPair, 6, (some .boolean))
abbrev M_X5_add : Mt := (yX5_add, cX5_add, 5, none)
abbrev M_X5_plantsOn : Mt := (yX5_plantsOn, cX5_plantsOn, 6, (some .int))
abbrev M_X5_furrowCount : Mt := (yX5_furrowCount, cX5_furrowCount, 2, (some .int))
abbrev M_X5_findFurrows : Mt := (yX5_findFurrows, cX5_findFurrows, 3, none)
abbrev M_X5_giveFurrow : Mt := (yX5_giveFurrow, cX5_giveFurrow, 5, none)
abbrev M_X6_init : Mt := (yX6_init, cX6_init, 1, none)
abbrev M_X6_begin : Mt := (yX6_begin, cX6_begin, 5, none)
abbrev M_X6_paint : Mt := (yX6_paint, cX6_paint, 3, none)
abbrev M_X6_become : Mt := (yX6_become, cX6_become, 2, none)
abbrev M_X6_isOf : Mt := (yX6_isOf, cX6_isOf, 4, (some .boolean))
abbrev M_X6_answer : Mt := (yX6_answer, cX6_answer, 3, (some .int))
abbrev M_X6_begun : Mt := (yX6_begun, cX6_begun, 5, (some .int))
abbrev M_X6_gives : Mt := (yX6_gives, cX6_gives, 5, (some .int))
abbrev M_X7_init : Mt := (yX7_init, cX7_init, 1, none)
abbrev M_X7_gather : Mt := (yX7_gather, cX7_gather, 4, none)
abbrev M_X7_add : Mt := (yX7_add, cX7_add, 3, none)
abbrev M_X7_placeOf : Mt := (yX7_placeOf, cX7_placeOf, 3, (some .int))
abbrev M_X7_isTogether : Mt := (yX7_isTogether, cX7_isTogether, 3, (some .boolean))
abbrev M_X7_row : Mt := (yX7_row, cX7_row, 2, (some (.array .int)))
abbrev M_X7_total : Mt := (yX7_total, cX7_total, 5, (some .int))
abbrev M_X7_sumAt : Mt := (yX7_sumAt, cX7_sumAt, 7, (some .int))
abbrev M_X7_isHalvedBy : Mt := (yX7_isHalvedBy, cX7_isHalvedBy, 9, (some .boolean))
abbrev M_X7_turn : Mt := (yX7_turn, cX7_turn, 4, (some .int))
abbrev M_X8_init : Mt := (yX8_init, cX8_init, 1, none)
abbrev M_X8_findWidest : Mt := (yX8_findWidest, cX8_findWidest, 5, none)
abbrev M_X8_consider : Mt := (yX8_consider, cX8_consider, 10, none)
abbrev M_X8_putInOrder : Mt := (yX8_putInOrder, cX8_putInOrder, 4, none)
abbrev M_X9_init : Mt := (yX9_init, cX9_init, 2, none)
abbrev M_X9_leave : Mt := (yX9_leave, cX9_leave, 2, none)
abbrev M_X10_init : Mt := (yX10_init, cX10_init, 2, none)
abbrev M_X10_bed : Mt := (yX10_bed, cX10_bed, 4, (some .int))
abbrev M_X10_set : Mt := (yX10_set, cX10_set, 6, (some .long))
abbrev M_X10_drop : Mt := (yX10_drop, cX10_drop, 2, (some .int))
abbrev M_X10_copy : Mt := (yX10_copy, cX10_copy, 8, (some .int))
abbrev M_X10_plant : Mt := (yX10_plant, cX10_plant, 10, (some .int))
abbrev M_X10_move : Mt := (yX10_move, cX10_move, 9, (some .int))
abbrev M_X10_away : Mt := (yX10_away, cX10_away, 2, (some .int))
abbrev M_X10_colour : Mt := (yX10_colour, cX10_colour, 5, (some .int))
abbrev M_X10_told : Mt := (yX10_told, cX10_told, 4, (some .int))
abbrev M_X10_is : Mt := (yX10_is, cX10_is, 3, (some .int))
abbrev M_X10_ask : Mt := (yX10_ask, cX10_ask, 3, (some .int))
abbrev M_X10_trace : Mt := (yX10_trace, cX10_trace, 2, (some .int))
abbrev M_X10_undo : Mt := (yX10_undo, cX10_undo, 1, (some .int))
abbrev M_X10_line : Mt := (yX10_line, cX10_line, 4, (some .int))
abbrev M_X10_through : Mt := (yX10_through, cX10_through, 5, (some .int))
abbrev M_X10_lineAt : Mt := (yX10_lineAt, cX10_lineAt, 2, (some .int))
abbrev M_X10_side : Mt := (yX10_side, cX10_side, 3, (some .int))
abbrev M_X10_halves : Mt := (yX10_halves, cX10_halves, 2, (some .int))
abbrev M_X10_furrow : Mt := (yX10_furrow, cX10_furrow, 2, (some .int))
abbrev M_X10_furrows : Mt := (yX10_furrows, cX10_furrows, 1, (some .int))
abbrev M_X10_depth : Mt := (yX10_depth, cX10_depth, 4, (some .int))
abbrev M_X10_deepest : Mt := (yX10_deepest, cX10_deepest, 2, (some .long))
abbrev M_X10_layer : Mt := (yX10_layer, cX10_layer, 2, (some .int))
abbrev M_X10_widest : Mt := (yX10_widest, cX10_widest, 2, (some .long))
abbrev M_X10_count : Mt := (yX10_count, cX10_count, 2, (some .int))
abbrev M_X10_status : Mt := (yX10_status, cX10_status, 1, (some .int))
abbrev M_X10_found : Mt := (yX10_found, cX10_found, 2, (some .int))
abbrev M_X10_done : Mt := (yX10_done, cX10_done, 2, (some .int))
abbrev M_X10_isGiven : Mt := (yX10_isGiven, cX10_isGiven, 2, (some .boolean))
abbrev M_X10_bedsThere : Mt := (yX10_bedsThere, cX10_bedsThere, 3, (some .int))
abbrev M_X10_keepForUndo : Mt := (yX10_keepForUndo, cX10_keepForUndo, 2, none)
abbrev M_X10_forget : Mt := (yX10_forget, cX10_forget, 1, none)
abbrev M_X10_gathered : Mt := (yX10_gathered, cX10_gathered, 1, (some (.object "FurrowField$Stand")))
abbrev M_X10_joined : Mt := (yX10_joined, cX10_joined, 1, (some (.object "FurrowField$Lines")))
abbrev M_X10_peeled : Mt := (yX10_peeled, cX10_peeled, 1, (some (.object "FurrowField$Layers")))
abbrev M_X10_isBelow : Mt := (yX10_isBelow, cX10_isBelow, 2, (some .boolean))
abbrev M_X10_isWithin : Mt := (yX10_isWithin, cX10_isWithin, 4, (some .boolean))
abbrev M_X10_isInField : Mt := (yX10_isInField, cX10_isInField, 2, (some .boolean))
abbrev M_X10_isBed : Mt := (yX10_isBed, cX10_isBed, 1, (some .boolean))
abbrev M_X10_commonDivisor : Mt := (yX10_commonDivisor, cX10_commonDivisor, 11, (some .long))
abbrev M_X10_without : Mt := (yX10_without, cX10_without, 6, (some .long))
abbrev M_X11_init : Mt := (yX11_init, cX11_init, 1, none)
abbrev M_X11_in : Mt := (yX11_in, cX11_in, 6, (some .boolean))
abbrev M_X11_finds : Mt := (yX11_finds, cX11_finds, 2, (some .int))
abbrev M_X11_well : Mt := (yX11_well, cX11_well, 2, (some .int))
abbrev M_X11_isBed : Mt := (yX11_isBed, cX11_isBed, 1, (some .boolean))
abbrev M_X11_bed : Mt := (yX11_bed, cX11_bed, 5, (some .int))
abbrev M_X11_set : Mt := (yX11_set, cX11_set, 7, (some .long))
abbrev M_X11_drop : Mt := (yX11_drop, cX11_drop, 2, (some .int))
abbrev M_X11_copy : Mt := (yX11_copy, cX11_copy, 7, (some .int))
abbrev M_X11_isPlant : Mt := (yX11_isPlant, cX11_isPlant, 2, (some .boolean))
abbrev M_X11_keep : Mt := (yX11_keep, cX11_keep, 3, none)
abbrev M_X11_plant : Mt := (yX11_plant, cX11_plant, 8, (some .int))
abbrev M_X11_move : Mt := (yX11_move, cX11_move, 4, (some .int))
abbrev M_X11_there : Mt := (yX11_there, cX11_there, 3, (some .int))
abbrev M_X11_away : Mt := (yX11_away, cX11_away, 2, (some .int))
abbrev M_X11_colour : Mt := (yX11_colour, cX11_colour, 4, (some .int))
abbrev M_X11_told : Mt := (yX11_told, cX11_told, 4, (some .int))
abbrev M_X11_isOf : Mt := (yX11_isOf, cX11_isOf, 3, (some .boolean))
abbrev M_X11_is : Mt := (yX11_is, cX11_is, 3, (some .int))
abbrev M_X11_begins : Mt := (yX11_begins, cX11_begins, 2, none)
abbrev M_X11_red : Mt := (yX11_red, cX11_red, 2, (some .int))
abbrev M_X11_blue : Mt := (yX11_blue, cX11_blue, 2, (some .int))
abbrev M_X11_lentAll : Mt := (yX11_lentAll, cX11_lentAll, 4, (some .int))
abbrev M_X11_all : Mt := (yX11_all, cX11_all, 2, (some .int))
abbrev M_X11_worth : Mt := (yX11_worth, cX11_worth, 2, (some .int))
abbrev M_X11_asked : Mt := (yX11_asked, cX11_asked, 3, (some .int))
abbrev M_X11_ask : Mt := (yX11_ask, cX11_ask, 4, (some .int))
abbrev M_X11_trace : Mt := (yX11_trace, cX11_trace, 2, (some .int))
abbrev M_X11_undo : Mt := (yX11_undo, cX11_undo, 1, (some .int))
abbrev M_X11_divisor : Mt := (yX11_divisor, cX11_divisor, 10, (some .long))
abbrev M_X11_line : Mt := (yX11_line, cX11_line, 6, (some .int))
abbrev M_X11_isApart : Mt := (yX11_isApart, cX11_isApart, 3, (some .boolean))
abbrev M_X11_look : Mt := (yX11_look, cX11_look, 5, none)
abbrev M_X11_at : Mt := (yX11_at, cX11_at, 2, (some .long))
abbrev M_X11_lookAtLine : Mt := (yX11_lookAtLine, cX11_lookAtLine, 1, none)
abbrev M_X11_putLine : Mt := (yX11_putLine, cX11_putLine, 1, none)
abbrev M_X11_through : Mt := (yX11_through, cX11_through, 3, (some .int))
abbrev M_X11_lineAt : Mt := (yX11_lineAt, cX11_lineAt, 2, (some .int))
abbrev M_X11_sumOf : Mt := (yX11_sumOf, cX11_sumOf, 8, (some .int))
abbrev M_X11_isHalved : Mt := (yX11_isHalved, cX11_isHalved, 5, (some .boolean))
abbrev M_X11_side : Mt := (yX11_side, cX11_side, 3, (some .int))
abbrev M_X11_halves : Mt := (yX11_halves, cX11_halves, 2, (some .int))
abbrev M_X11_isFirst : Mt := (yX11_isFirst, cX11_isFirst, 5, (some .boolean))
abbrev M_X11_firstThere : Mt := (yX11_firstThere, cX11_firstThere, 2, (some .int))
abbrev M_X11_findFurrow : Mt := (yX11_findFurrow, cX11_findFurrow, 6, (some .int))
abbrev M_X11_furrow : Mt := (yX11_furrow, cX11_furrow, 2, (some .int))
abbrev M_X11_furrows : Mt := (yX11_furrows, cX11_furrows, 1, (some .int))
abbrev M_X11_sumBeyond : Mt := (yX11_sumBeyond, cX11_sumBeyond, 17, (some .int))
abbrev M_X11_depthOf : Mt := (yX11_depthOf, cX11_depthOf, 17, (some .int))
abbrev M_X11_depth : Mt := (yX11_depth, cX11_depth, 4, (some .int))
abbrev M_X11_offer : Mt := (yX11_offer, cX11_offer, 12, none)
abbrev M_X11_deepest : Mt := (yX11_deepest, cX11_deepest, 11, (some .long))
abbrev M_X11_isOnEdge : Mt := (yX11_isOnEdge, cX11_isOnEdge, 7, (some .boolean))
abbrev M_X11_findLayers : Mt := (yX11_findLayers, cX11_findLayers, 4, (some .int))
abbrev M_X11_layer : Mt := (yX11_layer, cX11_layer, 5, (some .int))
abbrev M_X11_most : Mt := (yX11_most, cX11_most, 7, (some .int))
abbrev M_X11_offerGap : Mt := (yX11_offerGap, cX11_offerGap, 15, none)
abbrev M_X11_widest : Mt := (yX11_widest, cX11_widest, 8, (some .long))
abbrev M_X11_count : Mt := (yX11_count, cX11_count, 4, (some .int))
abbrev M_X11_status : Mt := (yX11_status, cX11_status, 1, (some .int))
abbrev M_law : Mt := (⟨"FurrowFieldLaw", "law", "([I)Z"⟩, cL_law, 4, some .boolean)
theorem fk_X0_9 : FL RX0 9 0 0 := ⟨_, rfl, by decide, (List.mem_append_right _ (List.mem_of_getElem? (i := 30) (by decide +kernel)))⟩
theorem fk_X10_113 : FL RX10 113 0 0 := ⟨_, rfl, by decide, (List.mem_append_right _ (List.mem_of_getElem? (i := 31) (by decide +kernel)))⟩
theorem fk_X0_15 : FL RX0 15 0 1 := ⟨_, rfl, by decide, (List.mem_append_right _ (List.mem_of_getElem? (i := 32) (by decide +kernel)))⟩
theorem fk_X10_106 : FL RX10 106 0 1 := ⟨_, rfl, by decide, (List.mem_append_right _ (List.mem_of_getElem? (i := 33) (by decide +kernel)))⟩
theorem fk_X0_19 : FL RX0 19 0 2 := ⟨_, rfl, by decide, (List.mem_append_right _ (List.mem_of_getElem? (i := 34) (by decide +kernel)))⟩
theorem fk_X10_128 : FL RX10 128 0 2 := ⟨_, rfl, by decide, (List.mem_append_right _ (List.mem_of_getElem? (i := 35) (by decide +kernel)))⟩
theorem fk_X0_23 : FL RX0 23 0 3 := ⟨_, rfl, by decide, (List.mem_append_right _ (List.mem_of_getElem? (i := 36) (by decide +kernel)))⟩
theorem fk_X10_125 : FL RX10 125 0 3 := ⟨_, rfl, by decide, (List.mem_append_right _ (List.mem_of_getElem? (i := 37) (by decide +kernel)))⟩
theorem fk_X6_9 : FL RX6 9 6 0 := ⟨_, rfl, by decide, (List.mem_append_right _ (List.mem_of_getElem? (i := 55) (by decide +kernel)))⟩
theorem fk_X7_47 : FL RX7 47 6 0 := ⟨_, rfl, by decide, (List.mem_append_right _ (List.mem_of_getElem? (i := 56) (by decide +kernel)))⟩
theorem fk_X10_159 : FL RX10 159 6 0 := ⟨_, rfl, by decide, (List.mem_append_right _ (List.mem_of_getElem? (i := 57) (by decide +kernel)))⟩
theorem fk_X6_15 : FL RX6 15 6 1 := ⟨_, rfl, by decide, (List.mem_append_right _ (List.mem_of_getElem? (i := 58) (by decide +kernel)))⟩
theorem fk_X7_49 : FL RX7 49 6 1 := ⟨_, rfl, by decide, (List.mem_append_right _ (List.mem_of_getElem? (i := 59) (by decide +kernel)))⟩
theorem fk_X10_162 : FL RX10 162 6 1 := ⟨_, rfl, by decide, (List.mem_append_right _ (List.mem_of_getElem? (i := 60) (by decide +kernel)))⟩
theorem fk_X6_18 : FL RX6 18 6 2 := ⟨_, rfl, by decide, (List.mem_append_right _ (List.mem_of_getElem? (i := 61) (by decide +kernel)))⟩
theorem fk_X10_172 : FL RX10 172 6 2 := ⟨_, rfl, by decide, (List.mem_append_right _ (List.mem_of_getElem? (i := 62) (by decide +kernel)))⟩
theorem fk_X6_29 : FL RX6 29 6 3 := ⟨_, rfl, by decide, (List.mem_append_right _ (List.mem_of_getElem? (i := 63) (by decide +kernel)))⟩
theorem fk_X10_175 : FL RX10 175 6 3 := ⟨_, rfl, by decide, (List.mem_append_right _ (List.mem_of_getElem? (i := 64) (by decide +kernel)))⟩
theorem fk_X6_36 : FL RX6 36 6 4 := ⟨_, rfl, by decide, (List.mem_append_right _ (List.mem_of_getElem? (i := 65) (by decide +kernel)))⟩
theorem fk_X7_51 : FL RX7 51 6 4 := ⟨_, rfl, by decide, (List.mem_append_right _ (List.mem_of_getElem? (i := 66) (by decide +kernel)))⟩
theorem fk_X6_39 : FL RX6 39 6 5 := ⟨_, rfl, by decide, (List.mem_append_right _ (List.mem_of_getElem? (i := 67) (by decide +kernel)))⟩
theorem fk_X7_53 : FL RX7 53 6 5 := ⟨_, rfl, by decide, (List.mem_append_right _ (List.mem_of_getElem? (i := 68) (by decide +kernel)))⟩
theorem fk_X6_42 : FL RX6 42 6 6 := ⟨_, rfl, by decide, (List.mem_append_right _ (List.mem_of_getElem? (i := 69) (by decide +kernel)))⟩
theorem fk_X7_55 : FL RX7 55 6 6 := ⟨_, rfl, by decide, (List.mem_append_right _ (List.mem_of_getElem? (i := 70) (by decide +kernel)))⟩
theorem fk_X6_21 : FL RX6 21 6 7 := ⟨_, rfl, by decide, (List.mem_append_right _ (List.mem_of_getElem? (i := 71) (by decide +kernel)))⟩
theorem fk_X7_34 : FL RX7 34 6 7 := ⟨_, rfl, by decide, (List.mem_append_right _ (List.mem_of_getElem? (i := 72) (by decide +kernel)))⟩
theorem fk_X10_158 : FL RX10 158 6 7 := ⟨_, rfl, by decide, (List.mem_append_right _ (List.mem_of_getElem? (i := 73) (by decide +kernel)))⟩
theorem fk_X1_10 : FL RX1 10 1 0 := ⟨_, rfl, by decide, (List.mem_append_right _ (List.mem_of_getElem? (i := 99) (by decide +kernel)))⟩
theorem fk_X10_214 : FL RX10 214 1 0 := ⟨_, rfl, by decide, (List.mem_append_right _ (List.mem_of_getElem? (i := 100) (by decide +kernel)))⟩
theorem fk_X10_207 : FL RX10 207 1 1 := ⟨_, rfl, by decide, (List.mem_append_right _ (List.mem_of_getElem? (i := 101) (by decide +kernel)))⟩
theorem fk_X10_210 : FL RX10 210 1 2 := ⟨_, rfl, by decide, (List.mem_append_right _ (List.mem_of_getElem? (i := 102) (by decide +kernel)))⟩
theorem fk_X10_222 : FL RX10 222 1 3 := ⟨_, rfl, by decide, (List.mem_append_right _ (List.mem_of_getElem? (i := 103) (by decide +kernel)))⟩
theorem fk_X9_7 : FL RX9 7 9 0 := ⟨_, rfl, by decide, (List.mem_append_right _ (List.mem_of_getElem? (i := 119) (by decide +kernel)))⟩
theorem fk_X10_202 : FL RX10 202 9 0 := ⟨_, rfl, by decide, (List.mem_append_right _ (List.mem_of_getElem? (i := 120) (by decide +kernel)))⟩
theorem fk_X9_13 : FL RX9 13 9 1 := ⟨_, rfl, by decide, (List.mem_append_right _ (List.mem_of_getElem? (i := 121) (by decide +kernel)))⟩
theorem fk_X10_195 : FL RX10 195 9 1 := ⟨_, rfl, by decide, (List.mem_append_right _ (List.mem_of_getElem? (i := 122) (by decide +kernel)))⟩
theorem fk_X4_9 : FL RX4 9 4 0 := ⟨_, rfl, by decide, (List.mem_append_right _ (List.mem_of_getElem? (i := 135) (by decide +kernel)))⟩
theorem fk_X5_77 : FL RX5 77 4 0 := ⟨_, rfl, by decide, (List.mem_append_right _ (List.mem_of_getElem? (i := 136) (by decide +kernel)))⟩
theorem fk_X10_236 : FL RX10 236 4 0 := ⟨_, rfl, by decide, (List.mem_append_right _ (List.mem_of_getElem? (i := 137) (by decide +kernel)))⟩
theorem fk_X4_15 : FL RX4 15 4 1 := ⟨_, rfl, by decide, (List.mem_append_right _ (List.mem_of_getElem? (i := 138) (by decide +kernel)))⟩
theorem fk_X5_79 : FL RX5 79 4 1 := ⟨_, rfl, by decide, (List.mem_append_right _ (List.mem_of_getElem? (i := 139) (by decide +kernel)))⟩
theorem fk_X10_239 : FL RX10 239 4 1 := ⟨_, rfl, by decide, (List.mem_append_right _ (List.mem_of_getElem? (i := 140) (by decide +kernel)))⟩
theorem fk_X4_18 : FL RX4 18 4 2 := ⟨_, rfl, by decide, (List.mem_append_right _ (List.mem_of_getElem? (i := 141) (by decide +kernel)))⟩
theorem fk_X5_81 : FL RX5 81 4 2 := ⟨_, rfl, by decide, (List.mem_append_right _ (List.mem_of_getElem? (i := 142) (by decide +kernel)))⟩
theorem fk_X10_242 : FL RX10 242 4 2 := ⟨_, rfl, by decide, (List.mem_append_right _ (List.mem_of_getElem? (i := 143) (by decide +kernel)))⟩
theorem fk_X7_9 : FL RX7 9 7 0 := ⟨_, rfl, by decide, (List.mem_append_right _ (List.mem_of_getElem? (i := 157) (by decide +kernel)))⟩
theorem fk_X7_15 : FL RX7 15 7 1 := ⟨_, rfl, by decide, (List.mem_append_right _ (List.mem_of_getElem? (i := 158) (by decide +kernel)))⟩
theorem fk_X2_24 : FL RX2 24 7 1 := ⟨_, rfl, by decide, (List.mem_append_right _ (List.mem_of_getElem? (i := 159) (by decide +kernel)))⟩
theorem fk_X8_49 : FL RX8 49 7 1 := ⟨_, rfl, by decide, (List.mem_append_right _ (List.mem_of_getElem? (i := 160) (by decide +kernel)))⟩
theorem fk_X5_67 : FL RX5 67 7 1 := ⟨_, rfl, by decide, (List.mem_append_right _ (List.mem_of_getElem? (i := 161) (by decide +kernel)))⟩
theorem fk_X7_18 : FL RX7 18 7 2 := ⟨_, rfl, by decide, (List.mem_append_right _ (List.mem_of_getElem? (i := 162) (by decide +kernel)))⟩
theorem fk_X2_28 : FL RX2 28 7 2 := ⟨_, rfl, by decide, (List.mem_append_right _ (List.mem_of_getElem? (i := 163) (by decide +kernel)))⟩
theorem fk_X8_52 : FL RX8 52 7 2 := ⟨_, rfl, by decide, (List.mem_append_right _ (List.mem_of_getElem? (i := 164) (by decide +kernel)))⟩
theorem fk_X5_70 : FL RX5 70 7 2 := ⟨_, rfl, by decide, (List.mem_append_right _ (List.mem_of_getElem? (i := 165) (by decide +kernel)))⟩
theorem fk_X7_21 : FL RX7 21 7 3 := ⟨_, rfl, by decide, (List.mem_append_right _ (List.mem_of_getElem? (i := 166) (by decide +kernel)))⟩
theorem fk_X7_24 : FL RX7 24 7 4 := ⟨_, rfl, by decide, (List.mem_append_right _ (List.mem_of_getElem? (i := 167) (by decide +kernel)))⟩
theorem fk_X7_27 : FL RX7 27 7 5 := ⟨_, rfl, by decide, (List.mem_append_right _ (List.mem_of_getElem? (i := 168) (by decide +kernel)))⟩
theorem fk_X2_35 : FL RX2 35 7 5 := ⟨_, rfl, by decide, (List.mem_append_right _ (List.mem_of_getElem? (i := 169) (by decide +kernel)))⟩
theorem fk_X7_44 : FL RX7 44 7 6 := ⟨_, rfl, by decide, (List.mem_append_right _ (List.mem_of_getElem? (i := 170) (by decide +kernel)))⟩
theorem fk_X10_314 : FL RX10 314 7 6 := ⟨_, rfl, by decide, (List.mem_append_right _ (List.mem_of_getElem? (i := 171) (by decide +kernel)))⟩
theorem fk_X7_30 : FL RX7 30 7 7 := ⟨_, rfl, by decide, (List.mem_append_right _ (List.mem_of_getElem? (i := 172) (by decide +kernel)))⟩
theorem fk_X3_19 : FL RX3 19 7 7 := ⟨_, rfl, by decide, (List.mem_append_right _ (List.mem_of_getElem? (i := 173) (by decide +kernel)))⟩
theorem fk_X2_18 : FL RX2 18 7 7 := ⟨_, rfl, by decide, (List.mem_append_right _ (List.mem_of_getElem? (i := 174) (by decide +kernel)))⟩
theorem fk_X5_45 : FL RX5 45 7 7 := ⟨_, rfl, by decide, (List.mem_append_right _ (List.mem_of_getElem? (i := 175) (by decide +kernel)))⟩
theorem fk_X8_46 : FL RX8 46 7 7 := ⟨_, rfl, by decide, (List.mem_append_right _ (List.mem_of_getElem? (i := 176) (by decide +kernel)))⟩
theorem fk_X10_169 : FL RX10 169 7 7 := ⟨_, rfl, by decide, (List.mem_append_right _ (List.mem_of_getElem? (i := 177) (by decide +kernel)))⟩
theorem fk_X5_9 : FL RX5 9 5 0 := ⟨_, rfl, by decide, (List.mem_append_right _ (List.mem_of_getElem? (i := 203) (by decide +kernel)))⟩
theorem fk_X8_28 : FL RX8 28 5 0 := ⟨_, rfl, by decide, (List.mem_append_right _ (List.mem_of_getElem? (i := 204) (by decide +kernel)))⟩
theorem fk_X2_78 : FL RX2 78 5 0 := ⟨_, rfl, by decide, (List.mem_append_right _ (List.mem_of_getElem? (i := 205) (by decide +kernel)))⟩
theorem fk_X5_15 : FL RX5 15 5 1 := ⟨_, rfl, by decide, (List.mem_append_right _ (List.mem_of_getElem? (i := 206) (by decide +kernel)))⟩
theorem fk_X8_31 : FL RX8 31 5 1 := ⟨_, rfl, by decide, (List.mem_append_right _ (List.mem_of_getElem? (i := 207) (by decide +kernel)))⟩
theorem fk_X2_81 : FL RX2 81 5 1 := ⟨_, rfl, by decide, (List.mem_append_right _ (List.mem_of_getElem? (i := 208) (by decide +kernel)))⟩
theorem fk_X5_18 : FL RX5 18 5 2 := ⟨_, rfl, by decide, (List.mem_append_right _ (List.mem_of_getElem? (i := 209) (by decide +kernel)))⟩
theorem fk_X2_84 : FL RX2 84 5 2 := ⟨_, rfl, by decide, (List.mem_append_right _ (List.mem_of_getElem? (i := 210) (by decide +kernel)))⟩
theorem fk_X5_21 : FL RX5 21 5 3 := ⟨_, rfl, by decide, (List.mem_append_right _ (List.mem_of_getElem? (i := 211) (by decide +kernel)))⟩
theorem fk_X5_27 : FL RX5 27 5 4 := ⟨_, rfl, by decide, (List.mem_append_right _ (List.mem_of_getElem? (i := 212) (by decide +kernel)))⟩
theorem fk_X5_41 : FL RX5 41 5 5 := ⟨_, rfl, by decide, (List.mem_append_right _ (List.mem_of_getElem? (i := 213) (by decide +kernel)))⟩
theorem fk_X5_100 : FL RX5 100 5 6 := ⟨_, rfl, by decide, (List.mem_append_right _ (List.mem_of_getElem? (i := 214) (by decide +kernel)))⟩
theorem fk_X5_60 : FL RX5 60 5 7 := ⟨_, rfl, by decide, (List.mem_append_right _ (List.mem_of_getElem? (i := 215) (by decide +kernel)))⟩
theorem fk_X10_315 : FL RX10 315 5 7 := ⟨_, rfl, by decide, (List.mem_append_right _ (List.mem_of_getElem? (i := 216) (by decide +kernel)))⟩
theorem fk_X5_31 : FL RX5 31 5 8 := ⟨_, rfl, by decide, (List.mem_append_right _ (List.mem_of_getElem? (i := 217) (by decide +kernel)))⟩
theorem fk_X8_22 : FL RX8 22 5 8 := ⟨_, rfl, by decide, (List.mem_append_right _ (List.mem_of_getElem? (i := 218) (by decide +kernel)))⟩
theorem fk_X2_67 : FL RX2 67 5 8 := ⟨_, rfl, by decide, (List.mem_append_right _ (List.mem_of_getElem? (i := 219) (by decide +kernel)))⟩
theorem fk_X10_293 : FL RX10 293 5 8 := ⟨_, rfl, by decide, (List.mem_append_right _ (List.mem_of_getElem? (i := 220) (by decide +kernel)))⟩
theorem fk_X5_35 : FL RX5 35 5 9 := ⟨_, rfl, by decide, (List.mem_append_right _ (List.mem_of_getElem? (i := 221) (by decide +kernel)))⟩
theorem fk_X10_287 : FL RX10 287 5 9 := ⟨_, rfl, by decide, (List.mem_append_right _ (List.mem_of_getElem? (i := 222) (by decide +kernel)))⟩
theorem fk_X5_38 : FL RX5 38 5 10 := ⟨_, rfl, by decide, (List.mem_append_right _ (List.mem_of_getElem? (i := 223) (by decide +kernel)))⟩
theorem fk_X10_290 : FL RX10 290 5 10 := ⟨_, rfl, by decide, (List.mem_append_right _ (List.mem_of_getElem? (i := 224) (by decide +kernel)))⟩
theorem fk_X3_9 : FL RX3 9 3 0 := ⟨_, rfl, by decide, (List.mem_append_right _ (List.mem_of_getElem? (i := 254) (by decide +kernel)))⟩
theorem fk_X3_26 : FL RX3 26 3 1 := ⟨_, rfl, by decide, (List.mem_append_right _ (List.mem_of_getElem? (i := 255) (by decide +kernel)))⟩
theorem fk_X10_316 : FL RX10 316 3 1 := ⟨_, rfl, by decide, (List.mem_append_right _ (List.mem_of_getElem? (i := 256) (by decide +kernel)))⟩
theorem fk_X3_15 : FL RX3 15 3 2 := ⟨_, rfl, by decide, (List.mem_append_right _ (List.mem_of_getElem? (i := 257) (by decide +kernel)))⟩
theorem fk_X10_309 : FL RX10 309 3 2 := ⟨_, rfl, by decide, (List.mem_append_right _ (List.mem_of_getElem? (i := 258) (by decide +kernel)))⟩
theorem fk_X2_9 : FL RX2 9 2 0 := ⟨_, rfl, by decide, (List.mem_append_right _ (List.mem_of_getElem? (i := 272) (by decide +kernel)))⟩
theorem fk_X2_15 : FL RX2 15 2 1 := ⟨_, rfl, by decide, (List.mem_append_right _ (List.mem_of_getElem? (i := 273) (by decide +kernel)))⟩
theorem fk_X2_74 : FL RX2 74 2 2 := ⟨_, rfl, by decide, (List.mem_append_right _ (List.mem_of_getElem? (i := 274) (by decide +kernel)))⟩
theorem fk_X10_273 : FL RX10 273 2 2 := ⟨_, rfl, by decide, (List.mem_append_right _ (List.mem_of_getElem? (i := 275) (by decide +kernel)))⟩
theorem fk_X2_52 : FL RX2 52 2 3 := ⟨_, rfl, by decide, (List.mem_append_right _ (List.mem_of_getElem? (i := 276) (by decide +kernel)))⟩
theorem fk_X2_55 : FL RX2 55 2 4 := ⟨_, rfl, by decide, (List.mem_append_right _ (List.mem_of_getElem? (i := 277) (by decide +kernel)))⟩
theorem fk_X2_58 : FL RX2 58 2 5 := ⟨_, rfl, by decide, (List.mem_append_right _ (List.mem_of_getElem? (i := 278) (by decide +kernel)))⟩
theorem fk_X2_60 : FL RX2 60 2 6 := ⟨_, rfl, by decide, (List.mem_append_right _ (List.mem_of_getElem? (i := 279) (by decide +kernel)))⟩
theorem fk_X8_9 : FL RX8 9 8 0 := ⟨_, rfl, by decide, (List.mem_append_right _ (List.mem_of_getElem? (i := 301) (by decide +kernel)))⟩
theorem fk_X8_42 : FL RX8 42 8 1 := ⟨_, rfl, by decide, (List.mem_append_right _ (List.mem_of_getElem? (i := 302) (by decide +kernel)))⟩
theorem fk_X10_294 : FL RX10 294 8 1 := ⟨_, rfl, by decide, (List.mem_append_right _ (List.mem_of_getElem? (i := 303) (by decide +kernel)))⟩
theorem fk_X8_15 : FL RX8 15 8 2 := ⟨_, rfl, by decide, (List.mem_append_right _ (List.mem_of_getElem? (i := 304) (by decide +kernel)))⟩
theorem fk_X10_298 : FL RX10 298 8 2 := ⟨_, rfl, by decide, (List.mem_append_right _ (List.mem_of_getElem? (i := 305) (by decide +kernel)))⟩
theorem fk_X8_19 : FL RX8 19 8 3 := ⟨_, rfl, by decide, (List.mem_append_right _ (List.mem_of_getElem? (i := 306) (by decide +kernel)))⟩
theorem fk_X10_302 : FL RX10 302 8 3 := ⟨_, rfl, by decide, (List.mem_append_right _ (List.mem_of_getElem? (i := 307) (by decide +kernel)))⟩
theorem fk_X10_11 : FL RX10 11 10 0 := ⟨_, rfl, by decide, (List.mem_append_right _ (List.mem_of_getElem? (i := 317) (by decide +kernel)))⟩
theorem fk_X10_18 : FL RX10 18 10 1 := ⟨_, rfl, by decide, (List.mem_append_right _ (List.mem_of_getElem? (i := 318) (by decide +kernel)))⟩
theorem fk_X10_26 : FL RX10 26 10 2 := ⟨_, rfl, by decide, (List.mem_append_right _ (List.mem_of_getElem? (i := 319) (by decide +kernel)))⟩
theorem fk_X10_35 : FL RX10 35 10 3 := ⟨_, rfl, by decide, (List.mem_append_right _ (List.mem_of_getElem? (i := 320) (by decide +kernel)))⟩
theorem fk_X10_39 : FL RX10 39 10 4 := ⟨_, rfl, by decide, (List.mem_append_right _ (List.mem_of_getElem? (i := 321) (by decide +kernel)))⟩
theorem fk_X10_45 : FL RX10 45 10 5 := ⟨_, rfl, by decide, (List.mem_append_right _ (List.mem_of_getElem? (i := 322) (by decide +kernel)))⟩
theorem fk_X10_52 : FL RX10 52 10 6 := ⟨_, rfl, by decide, (List.mem_append_right _ (List.mem_of_getElem? (i := 323) (by decide +kernel)))⟩
theorem fk_X10_59 : FL RX10 59 10 7 := ⟨_, rfl, by decide, (List.mem_append_right _ (List.mem_of_getElem? (i := 324) (by decide +kernel)))⟩
theorem fk_X10_66 : FL RX10 66 10 8 := ⟨_, rfl, by decide, (List.mem_append_right _ (List.mem_of_getElem? (i := 325) (by decide +kernel)))⟩
theorem fk_X10_73 : FL RX10 73 10 9 := ⟨_, rfl, by decide, (List.mem_append_right _ (List.mem_of_getElem? (i := 326) (by decide +kernel)))⟩
theorem fk_X10_80 : FL RX10 80 10 10 := ⟨_, rfl, by decide, (List.mem_append_right _ (List.mem_of_getElem? (i := 327) (by decide +kernel)))⟩
theorem fk_X10_137 : FL RX10 137 10 11 := ⟨_, rfl, by decide, (List.mem_append_right _ (List.mem_of_getElem? (i := 328) (by decide +kernel)))⟩
theorem fk_X10_121 : FL RX10 121 10 12 := ⟨_, rfl, by decide, (List.mem_append_right _ (List.mem_of_getElem? (i := 329) (by decide +kernel)))⟩
theorem fk_X11_101 : FL RX11 101 11 0 := ⟨_, rfl, by decide, (List.mem_append_right _ (List.mem_of_getElem? (i := 760) (by decide +kernel)))⟩
theorem fk_X11_7 : FL RX11 7 11 1 := ⟨_, rfl, by decide, (List.mem_append_right _ (List.mem_of_getElem? (i := 761) (by decide +kernel)))⟩
theorem fk_X11_13 : FL RX11 13 11 2 := ⟨_, rfl, by decide, (List.mem_append_right _ (List.mem_of_getElem? (i := 762) (by decide +kernel)))⟩
theorem fk_X11_16 : FL RX11 16 11 3 := ⟨_, rfl, by decide, (List.mem_append_right _ (List.mem_of_getElem? (i := 763) (by decide +kernel)))⟩
theorem fk_X11_19 : FL RX11 19 11 4 := ⟨_, rfl, by decide, (List.mem_append_right _ (List.mem_of_getElem? (i := 764) (by decide +kernel)))⟩
theorem fk_X11_22 : FL RX11 22 11 5 := ⟨_, rfl, by decide, (List.mem_append_right _ (List.mem_of_getElem? (i := 765) (by decide +kernel)))⟩
theorem fk_X11_27 : FL RX11 27 11 6 := ⟨_, rfl, by decide, (List.mem_append_right _ (List.mem_of_getElem? (i := 766) (by decide +kernel)))⟩
theorem fk_X11_104 : FL RX11 104 11 7 := ⟨_, rfl, by decide, (List.mem_append_right _ (List.mem_of_getElem? (i := 767) (by decide +kernel)))⟩
theorem fk_X11_108 : FL RX11 108 11 8 := ⟨_, rfl, by decide, (List.mem_append_right _ (List.mem_of_getElem? (i := 768) (by decide +kernel)))⟩
theorem fk_X11_111 : FL RX11 111 11 9 := ⟨_, rfl, by decide, (List.mem_append_right _ (List.mem_of_getElem? (i := 769) (by decide +kernel)))⟩
theorem fk_X11_114 : FL RX11 114 11 10 := ⟨_, rfl, by decide, (List.mem_append_right _ (List.mem_of_getElem? (i := 770) (by decide +kernel)))⟩
theorem fk_X11_117 : FL RX11 117 11 11 := ⟨_, rfl, by decide, (List.mem_append_right _ (List.mem_of_getElem? (i := 771) (by decide +kernel)))⟩
theorem fk_X11_31 : FL RX11 31 11 12 := ⟨_, rfl, by decide, (List.mem_append_right _ (List.mem_of_getElem? (i := 772) (by decide +kernel)))⟩
theorem fk_X11_34 : FL RX11 34 11 13 := ⟨_, rfl, by decide, (List.mem_append_right _ (List.mem_of_getElem? (i := 773) (by decide +kernel)))⟩
theorem fk_X11_37 : FL RX11 37 11 14 := ⟨_, rfl, by decide, (List.mem_append_right _ (List.mem_of_getElem? (i := 774) (by decide +kernel)))⟩
theorem fk_X11_41 : FL RX11 41 11 15 := ⟨_, rfl, by decide, (List.mem_append_right _ (List.mem_of_getElem? (i := 775) (by decide +kernel)))⟩
theorem fk_X11_75 : FL RX11 75 11 16 := ⟨_, rfl, by decide, (List.mem_append_right _ (List.mem_of_getElem? (i := 776) (by decide +kernel)))⟩
theorem fk_X11_44 : FL RX11 44 11 17 := ⟨_, rfl, by decide, (List.mem_append_right _ (List.mem_of_getElem? (i := 777) (by decide +kernel)))⟩
theorem fk_X11_150 : FL RX11 150 11 18 := ⟨_, rfl, by decide, (List.mem_append_right _ (List.mem_of_getElem? (i := 778) (by decide +kernel)))⟩
theorem fk_X11_147 : FL RX11 147 11 19 := ⟨_, rfl, by decide, (List.mem_append_right _ (List.mem_of_getElem? (i := 779) (by decide +kernel)))⟩
theorem fk_X11_185 : FL RX11 185 11 20 := ⟨_, rfl, by decide, (List.mem_append_right _ (List.mem_of_getElem? (i := 780) (by decide +kernel)))⟩
theorem fk_X11_47 : FL RX11 47 11 21 := ⟨_, rfl, by decide, (List.mem_append_right _ (List.mem_of_getElem? (i := 781) (by decide +kernel)))⟩
theorem fk_X11_188 : FL RX11 188 11 22 := ⟨_, rfl, by decide, (List.mem_append_right _ (List.mem_of_getElem? (i := 782) (by decide +kernel)))⟩
theorem fk_X11_191 : FL RX11 191 11 23 := ⟨_, rfl, by decide, (List.mem_append_right _ (List.mem_of_getElem? (i := 783) (by decide +kernel)))⟩
theorem fk_X11_194 : FL RX11 194 11 24 := ⟨_, rfl, by decide, (List.mem_append_right _ (List.mem_of_getElem? (i := 784) (by decide +kernel)))⟩
theorem fk_X11_197 : FL RX11 197 11 25 := ⟨_, rfl, by decide, (List.mem_append_right _ (List.mem_of_getElem? (i := 785) (by decide +kernel)))⟩
theorem fk_X11_51 : FL RX11 51 11 26 := ⟨_, rfl, by decide, (List.mem_append_right _ (List.mem_of_getElem? (i := 786) (by decide +kernel)))⟩
theorem fk_X11_54 : FL RX11 54 11 27 := ⟨_, rfl, by decide, (List.mem_append_right _ (List.mem_of_getElem? (i := 787) (by decide +kernel)))⟩
theorem fk_X11_57 : FL RX11 57 11 28 := ⟨_, rfl, by decide, (List.mem_append_right _ (List.mem_of_getElem? (i := 788) (by decide +kernel)))⟩
theorem fk_X11_253 : FL RX11 253 11 29 := ⟨_, rfl, by decide, (List.mem_append_right _ (List.mem_of_getElem? (i := 789) (by decide +kernel)))⟩
theorem fk_X11_247 : FL RX11 247 11 30 := ⟨_, rfl, by decide, (List.mem_append_right _ (List.mem_of_getElem? (i := 790) (by decide +kernel)))⟩
theorem fk_X11_250 : FL RX11 250 11 31 := ⟨_, rfl, by decide, (List.mem_append_right _ (List.mem_of_getElem? (i := 791) (by decide +kernel)))⟩
theorem fk_X11_244 : FL RX11 244 11 32 := ⟨_, rfl, by decide, (List.mem_append_right _ (List.mem_of_getElem? (i := 792) (by decide +kernel)))⟩
theorem fk_X11_60 : FL RX11 60 11 33 := ⟨_, rfl, by decide, (List.mem_append_right _ (List.mem_of_getElem? (i := 793) (by decide +kernel)))⟩
theorem fk_X11_63 : FL RX11 63 11 34 := ⟨_, rfl, by decide, (List.mem_append_right _ (List.mem_of_getElem? (i := 794) (by decide +kernel)))⟩
theorem fk_X11_66 : FL RX11 66 11 35 := ⟨_, rfl, by decide, (List.mem_append_right _ (List.mem_of_getElem? (i := 795) (by decide +kernel)))⟩
theorem fk_X11_69 : FL RX11 69 11 36 := ⟨_, rfl, by decide, (List.mem_append_right _ (List.mem_of_getElem? (i := 796) (by decide +kernel)))⟩
theorem fk_X11_72 : FL RX11 72 11 37 := ⟨_, rfl, by decide, (List.mem_append_right _ (List.mem_of_getElem? (i := 797) (by decide +kernel)))⟩
theorem fk_X11_270 : FL RX11 270 11 38 := ⟨_, rfl, by decide, (List.mem_append_right _ (List.mem_of_getElem? (i := 798) (by decide +kernel)))⟩
theorem fk_X11_267 : FL RX11 267 11 39 := ⟨_, rfl, by decide, (List.mem_append_right _ (List.mem_of_getElem? (i := 799) (by decide +kernel)))⟩
theorem kk_X0_lay : Cond.code M_X0_lay.1 M_X0_lay.2.1 M_X0_lay.2.2.1 M_X0_lay.2.2.2 ∈ lw_tbl := (List.mem_append_right _ (List.mem_of_getElem? (i := 376) (by decide +kernel)))
theorem ki_X0_lay : Cond.instanceMethod M_X0_lay.1 ∈ lw_tbl := (List.mem_append_right _ (List.mem_of_getElem? (i := 374) (by decide +kernel)))
theorem kl_X0_lay : Cond.selects M_X0_lay.1.cls M_X0_lay.1 M_X0_lay.1 ∈ lw_tbl := (List.mem_append_right _ (List.mem_of_getElem? (i := 375) (by decide +kernel)))
theorem kk_X0_has : Cond.code M_X0_has.1 M_X0_has.2.1 M_X0_has.2.2.1 M_X0_has.2.2.2 ∈ lw_tbl := (List.mem_append_right _ (List.mem_of_getElem? (i := 389) (by decide +kernel)))
theorem ki_X0_has : Cond.instanceMethod M_X0_has.1 ∈ lw_tbl := (List.mem_append_right _ (List.mem_of_getElem? (i := 387) (by decide +kernel)))
theorem kl_X0_has : Cond.selects M_X0_has.1.cls M_X0_has.1 M_X0_has.1 ∈ lw_tbl := (List.mem_append_right _ (List.mem_of_getElem? (i := 388) (by decide +kernel)))
theorem kk_X0_narrowed : Cond.code M_X0_narrowed.1 M_X0_narrowed.2.1 M_X0_narrowed.2.2.1 M_X0_narrowed.2.2.2 ∈ lw_tbl := (List.mem_append_right _ (List.mem_of_getElem? (i := 393) (by decide +kernel)))
theorem ki_X0_narrowed : Cond.instanceMethod M_X0_narrowed.1 ∈ lw_tbl := (List.mem_append_right _ (List.mem_of_getElem? (i := 391) (by decide +kernel)))
theorem kl_X0_narrowed : Cond.selects M_X0_narrowed.1.cls M_X0_narrowed.1 M_X0_narrowed.1 ∈ lw_tbl := (List.mem_append_right _ (List.mem_of_getElem? (i := 392) (by decide +kernel)))
theorem kk_X2_depthAt : Cond.code M_X2_depthAt.1 M_X2_depthAt.2.1 M_X2_depthAt.2.2.1 M_X2_depthAt.2.2.2 ∈ lw_tbl := (List.mem_append_right _ (List.mem_of_getElem? (i := 663) (by decide +kernel)))
theorem ki_X2_depthAt : Cond.instanceMethod M_X2_depthAt.1 ∈ lw_tbl := (List.mem_append_right _ (List.mem_of_getElem? (i := 661) (by decide +kernel)))
theorem kl_X2_depthAt : Cond.selects M_X2_depthAt.1.cls M_X2_depthAt.1 M_X2_depthAt.1 ∈ lw_tbl := (List.mem_append_right _ (List.mem_of_getElem? (i := 662) (by decide +kernel)))
theorem kk_X2_isHere : Cond.code M_X2_isHere.1 M_X2_isHere.2.1 M_X2_isHere.2.2.1 M_X2_isHere.2.2.2 ∈ lw_tbl := (List.mem_append_right _ (List.mem_of_getElem? (i := 667) (by decide +kernel)))
theorem ki_X2_isHere : Cond.instanceMethod M_X2_isHere.1 ∈ lw_tbl := (List.mem_append_right _ (List.mem_of_getElem? (i := 666) (by decide +kernel)))
theorem kl_X2_isHere : Cond.selects M_X2_isHere.1.cls M_X2_isHere.1 M_X2_isHere.1 ∈ lw_tbl := (List.mem_append_left _ (by decide +kernel))
theorem kk_X2_leastBeside : Cond.code M_X2_leastBeside.1 M_X2_leastBeside.2.1 M_X2_leastBeside.2.2.1 M_X2_leastBeside.2.2.2 ∈ lw_tbl := (List.mem_append_right _ (List.mem_of_getElem? (i := 675) (by decide +kernel)))
theorem ki_X2_leastBeside : Cond.instanceMethod M_X2_leastBeside.1 ∈ lw_tbl := (List.mem_append_right _ (List.mem_of_getElem? (i := 674) (by decide +kernel)))
theorem kl_X2_leastBeside : Cond.selects M_X2_leastBeside.1.cls M_X2_leastBeside.1 M_X2_leastBeside.1 ∈ lw_tbl := (List.mem_append_left _ (by decide +kernel))
theorem kk_X2_findDeepest : Cond.code M_X2_findDeepest.1 M_X2_findDeepest.2.1 M_X2_findDeepest.2.2.1 M_X2_findDeepest.2.2.2 ∈ lw_tbl := (List.mem_append_right _ (List.mem_of_getElem? (i := 686) (by decide +kernel)))
theorem ki_X2_findDeepest : Cond.instanceMethod M_X2_findDeepest.1 ∈ lw_tbl := (List.mem_append_right _ (List.mem_of_getElem? (i := 684) (by decide +kernel)))
theorem kl_X2_findDeepest : Cond.selects M_X2_findDeepest.1.cls M_X2_findDeepest.1 M_X2_findDeepest.1 ∈ lw_tbl := (List.mem_append_right _ (List.mem_of_getElem? (i := 685) (by decide +kernel)))
theorem kk_X2_considerCrossing : Cond.code M_X2_considerCrossing.1 M_X2_considerCrossing.2.1 M_X2_considerCrossing.2.2.1 M_X2_considerCrossing.2.2.2 ∈ lw_tbl := (List.mem_append_right _ (List.mem_of_getElem? (i := 699) (by decide +kernel)))
theorem ki_X2_considerCrossing : Cond.instanceMethod M_X2_considerCrossing.1 ∈ lw_tbl := (List.mem_append_right _ (List.mem_of_getElem? (i := 698) (by decide +kernel)))
theorem kl_X2_considerCrossing : Cond.selects M_X2_considerCrossing.1.cls M_X2_considerCrossing.1 M_X2_considerCrossing.1 ∈ lw_tbl := (List.mem_append_left _ (by decide +kernel))
theorem kk_X2_consider : Cond.code M_X2_consider.1 M_X2_consider.2.1 M_X2_consider.2.2.1 M_X2_consider.2.2.2 ∈ lw_tbl := (List.mem_append_right _ (List.mem_of_getElem? (i := 690) (by decide +kernel)))
theorem ki_X2_consider : Cond.instanceMethod M_X2_consider.1 ∈ lw_tbl := (List.mem_append_right _ (List.mem_of_getElem? (i := 689) (by decide +kernel)))
theorem kl_X2_consider : Cond.selects M_X2_consider.1.cls M_X2_consider.1 M_X2_consider.1 ∈ lw_tbl := (List.mem_append_left _ (by decide +kernel))
theorem kk_X2_isAhead : Cond.code M_X2_isAhead.1 M_X2_isAhead.2.1 M_X2_isAhead.2.2.1 M_X2_isAhead.2.2.2 ∈ lw_tbl := (List.mem_append_right _ (List.mem_of_getElem? (i := 694) (by decide +kernel)))
theorem ki_X2_isAhead : Cond.instanceMethod M_X2_isAhead.1 ∈ lw_tbl := (List.mem_append_right _ (List.mem_of_getElem? (i := 693) (by decide +kernel)))
theorem kl_X2_isAhead : Cond.selects M_X2_isAhead.1.cls M_X2_isAhead.1 M_X2_isAhead.1 ∈ lw_tbl := (List.mem_append_left _ (by decide +kernel))
theorem kk_X2_tell : Cond.code M_X2_tell.1 M_X2_tell.2.1 M_X2_tell.2.2.1 M_X2_tell.2.2.2 ∈ lw_tbl := (List.mem_append_right _ (List.mem_of_getElem? (i := 703) (by decide +kernel)))
theorem ki_X2_tell : Cond.instanceMethod M_X2_tell.1 ∈ lw_tbl := (List.mem_append_right _ (List.mem_of_getElem? (i := 701) (by decide +kernel)))
theorem kl_X2_tell : Cond.selects M_X2_tell.1.cls M_X2_tell.1 M_X2_tell.1 ∈ lw_tbl := (List.mem_append_right _ (List.mem_of_getElem? (i := 702) (by decide +kernel)))
theorem kk_X3_peel : Cond.code M_X3_peel.1 M_X3_peel.2.1 M_X3_peel.2.2.1 M_X3_peel.2.2.2 ∈ lw_tbl := (List.mem_append_right _ (List.mem_of_getElem? (i := 495) (by decide +kernel)))
theorem ki_X3_peel : Cond.instanceMethod M_X3_peel.1 ∈ lw_tbl := (List.mem_append_right _ (List.mem_of_getElem? (i := 493) (by decide +kernel)))
theorem kl_X3_peel : Cond.selects M_X3_peel.1.cls M_X3_peel.1 M_X3_peel.1 ∈ lw_tbl := (List.mem_append_right _ (List.mem_of_getElem? (i := 494) (by decide +kernel)))
theorem kk_X3_peelOne : Cond.code M_X3_peelOne.1 M_X3_peelOne.2.1 M_X3_peelOne.2.2.1 M_X3_peelOne.2.2.2 ∈ lw_tbl := (List.mem_append_right _ (List.mem_of_getElem? (i := 499) (by decide +kernel)))
theorem ki_X3_peelOne : Cond.instanceMethod M_X3_peelOne.1 ∈ lw_tbl := (List.mem_append_right _ (List.mem_of_getElem? (i := 498) (by decide +kernel)))
theorem kl_X3_peelOne : Cond.selects M_X3_peelOne.1.cls M_X3_peelOne.1 M_X3_peelOne.1 ∈ lw_tbl := (List.mem_append_left _ (by decide +kernel))
theorem kk_X3_isIn : Cond.code M_X3_isIn.1 M_X3_isIn.2.1 M_X3_isIn.2.2.1 M_X3_isIn.2.2.2 ∈ lw_tbl := (List.mem_append_right _ (List.mem_of_getElem? (i := 507) (by decide +kernel)))
theorem ki_X3_isIn : Cond.instanceMethod M_X3_isIn.1 ∈ lw_tbl := (List.mem_append_right _ (List.mem_of_getElem? (i := 506) (by decide +kernel)))
theorem kl_X3_isIn : Cond.selects M_X3_isIn.1.cls M_X3_isIn.1 M_X3_isIn.1 ∈ lw_tbl := (List.mem_append_left _ (by decide +kernel))
theorem kk_X3_isOnEdge : Cond.code M_X3_isOnEdge.1 M_X3_isOnEdge.2.1 M_X3_isOnEdge.2.2.1 M_X3_isOnEdge.2.2.2 ∈ lw_tbl := (List.mem_append_right _ (List.mem_of_getElem? (i := 503) (by decide +kernel)))
theorem ki_X3_isOnEdge : Cond.instanceMethod M_X3_isOnEdge.1 ∈ lw_tbl := (List.mem_append_right _ (List.mem_of_getElem? (i := 502) (by decide +kernel)))
theorem kl_X3_isOnEdge : Cond.selects M_X3_isOnEdge.1.cls M_X3_isOnEdge.1 M_X3_isOnEdge.1 ∈ lw_tbl := (List.mem_append_left _ (by decide +kernel))
theorem kk_X3_isOneSided : Cond.code M_X3_isOneSided.1 M_X3_isOneSided.2.1 M_X3_isOneSided.2.2.1 M_X3_isOneSided.2.2.2 ∈ lw_tbl := (List.mem_append_right _ (List.mem_of_getElem? (i := 515) (by decide +kernel)))
theorem ki_X3_isOneSided : Cond.instanceMethod M_X3_isOneSided.1 ∈ lw_tbl := (List.mem_append_right _ (List.mem_of_getElem? (i := 514) (by decide +kernel)))
theorem kl_X3_isOneSided : Cond.selects M_X3_isOneSided.1.cls M_X3_isOneSided.1 M_X3_isOneSided.1 ∈ lw_tbl := (List.mem_append_left _ (by decide +kernel))
theorem kk_X3_layerOf : Cond.code M_X3_layerOf.1 M_X3_layerOf.2.1 M_X3_layerOf.2.2.1 M_X3_layerOf.2.2.2 ∈ lw_tbl := (List.mem_append_right _ (List.mem_of_getElem? (i := 527) (by decide +kernel)))
theorem ki_X3_layerOf : Cond.instanceMethod M_X3_layerOf.1 ∈ lw_tbl := (List.mem_append_right _ (List.mem_of_getElem? (i := 525) (by decide +kernel)))
theorem kl_X3_layerOf : Cond.selects M_X3_layerOf.1.cls M_X3_layerOf.1 M_X3_layerOf.1 ∈ lw_tbl := (List.mem_append_right _ (List.mem_of_getElem? (i := 526) (by decide +kernel)))
theorem kk_X3_sizeOf : Cond.code M_X3_sizeOf.1 M_X3_sizeOf.2.1 M_X3_sizeOf.2.2.1 M_X3_sizeOf.2.2.2 ∈ lw_tbl := (List.mem_append_right _ (List.mem_of_getElem? (i := 715) (by decide +kernel)))
theorem ki_X3_sizeOf : Cond.instanceMethod M_X3_sizeOf.1 ∈ lw_tbl := (List.mem_append_right _ (List.mem_of_getElem? (i := 713) (by decide +kernel)))
theorem kl_X3_sizeOf : Cond.selects M_X3_sizeOf.1.cls M_X3_sizeOf.1 M_X3_sizeOf.1 ∈ lw_tbl := (List.mem_append_right _ (List.mem_of_getElem? (i := 714) (by decide +kernel)))
theorem kk_X4_become : Cond.code M_X4_become.1 M_X4_become.2.1 M_X4_become.2.2.1 M_X4_become.2.2.2 ∈ lw_tbl := (List.mem_append_right _ (List.mem_of_getElem? (i := 565) (by decide +kernel)))
theorem ki_X4_become : Cond.instanceMethod M_X4_become.1 ∈ lw_tbl := (List.mem_append_right _ (List.mem_of_getElem? (i := 563) (by decide +kernel)))
theorem kl_X4_become : Cond.selects M_X4_become.1.cls M_X4_become.1 M_X4_become.1 ∈ lw_tbl := (List.mem_append_right _ (List.mem_of_getElem? (i := 564) (by decide +kernel)))
theorem kk_X4_join : Cond.code M_X4_join.1 M_X4_join.2.1 M_X4_join.2.2.1 M_X4_join.2.2.2 ∈ lw_tbl := (List.mem_append_right _ (List.mem_of_getElem? (i := 576) (by decide +kernel)))
theorem ki_X4_join : Cond.instanceMethod M_X4_join.1 ∈ lw_tbl := (List.mem_append_right _ (List.mem_of_getElem? (i := 574) (by decide +kernel)))
theorem kl_X4_join : Cond.selects M_X4_join.1.cls M_X4_join.1 M_X4_join.1 ∈ lw_tbl := (List.mem_append_right _ (List.mem_of_getElem? (i := 575) (by decide +kernel)))
theorem kk_X4_sideOf : Cond.code M_X4_sideOf.1 M_X4_sideOf.2.1 M_X4_sideOf.2.2.1 M_X4_sideOf.2.2.2 ∈ lw_tbl := (List.mem_append_right _ (List.mem_of_getElem? (i := 597) (by decide +kernel)))
theorem ki_X4_sideOf : Cond.instanceMethod M_X4_sideOf.1 ∈ lw_tbl := (List.mem_append_right _ (List.mem_of_getElem? (i := 595) (by decide +kernel)))
theorem kl_X4_sideOf : Cond.selects M_X4_sideOf.1.cls M_X4_sideOf.1 M_X4_sideOf.1 ∈ lw_tbl := (List.mem_append_right _ (List.mem_of_getElem? (i := 596) (by decide +kernel)))
theorem kk_X5_gather : Cond.code M_X5_gather.1 M_X5_gather.2.1 M_X5_gather.2.2.1 M_X5_gather.2.2.2 ∈ lw_tbl := (List.mem_append_right _ (List.mem_of_getElem? (i := 617) (by decide +kernel)))
theorem ki_X5_gather : Cond.instanceMethod M_X5_gather.1 ∈ lw_tbl := (List.mem_append_right _ (List.mem_of_getElem? (i := 615) (by decide +kernel)))
theorem kl_X5_gather : Cond.selects M_X5_gather.1.cls M_X5_gather.1 M_X5_gather.1 ∈ lw_tbl := (List.mem_append_right _ (List.mem_of_getElem? (i := 616) (by decide +kernel)))
theorem kk_X5_isFirstPair : Cond.code M_X5_isFirstPair.1 M_X5_isFirstPair.2.1 M_X5_isFirstPair.2.2.1 M_X5_isFirstPair.2.2.2 ∈ lw_tbl := (List.mem_append_right _ (List.mem_of_getElem? (i := 622) (by decide +kernel)))
theorem ki_X5_isFirstPair : Cond.instanceMethod M_X5_isFirstPair.1 ∈ lw_tbl := (List.mem_append_right _ (List.mem_of_getElem? (i := 621) (by decide +kernel)))
theorem kl_X5_isFirstPair : Cond.selects M_X5_isFirstPair.1.cls M_X5_isFirstPair.1 M_X5_isFirstPair.1 ∈ lw_tbl := (List.mem_append_left _ (by decide +kernel))
theorem kk_X5_add : Cond.code M_X5_add.1 M_X5_add.2.1 M_X5_add.2.2.1 M_X5_add.2.2.2 ∈ lw_tbl := (List.mem_append_right _ (List.mem_of_getElem? (i := 627) (by decide +kernel)))
theorem ki_X5_add : Cond.instanceMethod M_X5_add.1 ∈ lw_tbl := (List.mem_append_right _ (List.mem_of_getElem? (i := 626) (by decide +kernel)))
theorem kl_X5_add : Cond.selects M_X5_add.1.cls M_X5_add.1 M_X5_add.1 ∈ lw_tbl := (List.mem_append_left _ (by decide +kernel))
theorem kk_X5_plantsOn : Cond.code M_X5_plantsOn.1 M_X5_plantsOn.2.1 M_X5_plantsOn.2.2.1 M_X5_plantsOn.2.2.2 ∈ lw_tbl := (List.mem_append_right _ (List.mem_of_getElem? (i := 632) (by decide +kernel)))
theorem ki_X5_plantsOn : Cond.instanceMethod M_X5_plantsOn.1 ∈ lw_tbl := (List.mem_append_right _ (List.mem_of_getElem? (i := 631) (by decide +kernel)))
theorem kl_X5_plantsOn : Cond.selects M_X5_plantsOn.1.cls M_X5_plantsOn.1 M_X5_plantsOn.1 ∈ lw_tbl := (List.mem_append_left _ (by decide +kernel))
theorem kk_X5_furrowCount : Cond.code M_X5_furrowCount.1 M_X5_furrowCount.2.1 M_X5_furrowCount.2.2.1 M_X5_furrowCount.2.2.2 ∈ lw_tbl := (List.mem_append_right _ (List.mem_of_getElem? (i := 640) (by decide +kernel)))
theorem ki_X5_furrowCount : Cond.instanceMethod M_X5_furrowCount.1 ∈ lw_tbl := (List.mem_append_right _ (List.mem_of_getElem? (i := 638) (by decide +kernel)))
theorem kl_X5_furrowCount : Cond.selects M_X5_furrowCount.1.cls M_X5_furrowCount.1 M_X5_furrowCount.1 ∈ lw_tbl := (List.mem_append_right _ (List.mem_of_getElem? (i := 639) (by decide +kernel)))
theorem kk_X5_findFurrows : Cond.code M_X5_findFurrows.1 M_X5_findFurrows.2.1 M_X5_findFurrows.2.2.1 M_X5_findFurrows.2.2.2 ∈ lw_tbl := (List.mem_append_right _ (List.mem_of_getElem? (i := 644) (by decide +kernel)))
theorem ki_X5_findFurrows : Cond.instanceMethod M_X5_findFurrows.1 ∈ lw_tbl := (List.mem_append_right _ (List.mem_of_getElem? (i := 643) (by decide +kernel)))
theorem kl_X5_findFurrows : Cond.selects M_X5_findFurrows.1.cls M_X5_findFurrows.1 M_X5_findFurrows.1 ∈ lw_tbl := (List.mem_append_left _ (by decide +kernel))
theorem kk_X5_giveFurrow : Cond.code M_X5_giveFurrow.1 M_X5_giveFurrow.2.1 M_X5_giveFurrow.2.2.1 M_X5_giveFurrow.2.2.2 ∈ lw_tbl := (List.mem_append_right _ (List.mem_of_getElem? (i := 650) (by decide +kernel)))
theorem ki_X5_giveFurrow : Cond.instanceMethod M_X5_giveFurrow.1 ∈ lw_tbl := (List.mem_append_right _ (List.mem_of_getElem? (i := 648) (by decide +kernel)))
theorem kl_X5_giveFurrow : Cond.selects M_X5_giveFurrow.1.cls M_X5_giveFurrow.1 M_X5_giveFurrow.1 ∈ lw_tbl := (List.mem_append_right _ (List.mem_of_getElem? (i := 649) (by decide +kernel)))
theorem kk_X6_begin : Cond.code M_X6_begin.1 M_X6_begin.2.1 M_X6_begin.2.2.1 M_X6_begin.2.2.2 ∈ lw_tbl := (List.mem_append_right _ (List.mem_of_getElem? (i := 428) (by decide +kernel)))
theorem ki_X6_begin : Cond.instanceMethod M_X6_begin.1 ∈ lw_tbl := (List.mem_append_right _ (List.mem_of_getElem? (i := 426) (by decide +kernel)))
theorem kl_X6_begin : Cond.selects M_X6_begin.1.cls M_X6_begin.1 M_X6_begin.1 ∈ lw_tbl := (List.mem_append_right _ (List.mem_of_getElem? (i := 427) (by decide +kernel)))
theorem kk_X6_paint : Cond.code M_X6_paint.1 M_X6_paint.2.1 M_X6_paint.2.2.1 M_X6_paint.2.2.2 ∈ lw_tbl := (List.mem_append_right _ (List.mem_of_getElem? (i := 432) (by decide +kernel)))
theorem ki_X6_paint : Cond.instanceMethod M_X6_paint.1 ∈ lw_tbl := (List.mem_append_right _ (List.mem_of_getElem? (i := 430) (by decide +kernel)))
theorem kl_X6_paint : Cond.selects M_X6_paint.1.cls M_X6_paint.1 M_X6_paint.1 ∈ lw_tbl := (List.mem_append_right _ (List.mem_of_getElem? (i := 431) (by decide +kernel)))
theorem kk_X6_become : Cond.code M_X6_become.1 M_X6_become.2.1 M_X6_become.2.2.1 M_X6_become.2.2.2 ∈ lw_tbl := (List.mem_append_right _ (List.mem_of_getElem? (i := 424) (by decide +kernel)))
theorem ki_X6_become : Cond.instanceMethod M_X6_become.1 ∈ lw_tbl := (List.mem_append_right _ (List.mem_of_getElem? (i := 422) (by decide +kernel)))
theorem kl_X6_become : Cond.selects M_X6_become.1.cls M_X6_become.1 M_X6_become.1 ∈ lw_tbl := (List.mem_append_right _ (List.mem_of_getElem? (i := 423) (by decide +kernel)))
theorem kk_X6_isOf : Cond.code M_X6_isOf.1 M_X6_isOf.2.1 M_X6_isOf.2.2.1 M_X6_isOf.2.2.2 ∈ lw_tbl := (List.mem_append_right _ (List.mem_of_getElem? (i := 536) (by decide +kernel)))
theorem ki_X6_isOf : Cond.instanceMethod M_X6_isOf.1 ∈ lw_tbl := (List.mem_append_right _ (List.mem_of_getElem? (i := 534) (by decide +kernel)))
theorem kl_X6_isOf : Cond.selects M_X6_isOf.1.cls M_X6_isOf.1 M_X6_isOf.1 ∈ lw_tbl := (List.mem_append_right _ (List.mem_of_getElem? (i := 535) (by decide +kernel)))
theorem kk_X6_answer : Cond.code M_X6_answer.1 M_X6_answer.2.1 M_X6_answer.2.2.1 M_X6_answer.2.2.2 ∈ lw_tbl := (List.mem_append_right _ (List.mem_of_getElem? (i := 546) (by decide +kernel)))
theorem ki_X6_answer : Cond.instanceMethod M_X6_answer.1 ∈ lw_tbl := (List.mem_append_right _ (List.mem_of_getElem? (i := 544) (by decide +kernel)))
theorem kl_X6_answer : Cond.selects M_X6_answer.1.cls M_X6_answer.1 M_X6_answer.1 ∈ lw_tbl := (List.mem_append_right _ (List.mem_of_getElem? (i := 545) (by decide +kernel)))
theorem kk_X6_begun : Cond.code M_X6_begun.1 M_X6_begun.2.1 M_X6_begun.2.2.1 M_X6_begun.2.2.2 ∈ lw_tbl := (List.mem_append_right _ (List.mem_of_getElem? (i := 436) (by decide +kernel)))
theorem ki_X6_begun : Cond.instanceMethod M_X6_begun.1 ∈ lw_tbl := (List.mem_append_right _ (List.mem_of_getElem? (i := 435) (by decide +kernel)))
theorem kl_X6_begun : Cond.selects M_X6_begun.1.cls M_X6_begun.1 M_X6_begun.1 ∈ lw_tbl := (List.mem_append_left _ (by decide +kernel))
theorem kk_X6_gives : Cond.code M_X6_gives.1 M_X6_gives.2.1 M_X6_gives.2.2.1 M_X6_gives.2.2.2 ∈ lw_tbl := (List.mem_append_right _ (List.mem_of_getElem? (i := 443) (by decide +kernel)))
theorem ki_X6_gives : Cond.instanceMethod M_X6_gives.1 ∈ lw_tbl := (List.mem_append_right _ (List.mem_of_getElem? (i := 442) (by decide +kernel)))
theorem kl_X6_gives : Cond.selects M_X6_gives.1.cls M_X6_gives.1 M_X6_gives.1 ∈ lw_tbl := (List.mem_append_left _ (by decide +kernel))
theorem kk_X7_gather : Cond.code M_X7_gather.1 M_X7_gather.2.1 M_X7_gather.2.2.1 M_X7_gather.2.2.2 ∈ lw_tbl := (List.mem_append_right _ (List.mem_of_getElem? (i := 474) (by decide +kernel)))
theorem ki_X7_gather : Cond.instanceMethod M_X7_gather.1 ∈ lw_tbl := (List.mem_append_right _ (List.mem_of_getElem? (i := 472) (by decide +kernel)))
theorem kl_X7_gather : Cond.selects M_X7_gather.1.cls M_X7_gather.1 M_X7_gather.1 ∈ lw_tbl := (List.mem_append_right _ (List.mem_of_getElem? (i := 473) (by decide +kernel)))
theorem kk_X7_add : Cond.code M_X7_add.1 M_X7_add.2.1 M_X7_add.2.2.1 M_X7_add.2.2.2 ∈ lw_tbl := (List.mem_append_right _ (List.mem_of_getElem? (i := 478) (by decide +kernel)))
theorem ki_X7_add : Cond.instanceMethod M_X7_add.1 ∈ lw_tbl := (List.mem_append_right _ (List.mem_of_getElem? (i := 477) (by decide +kernel)))
theorem kl_X7_add : Cond.selects M_X7_add.1.cls M_X7_add.1 M_X7_add.1 ∈ lw_tbl := (List.mem_append_left _ (by decide +kernel))
theorem kk_X7_placeOf : Cond.code M_X7_placeOf.1 M_X7_placeOf.2.1 M_X7_placeOf.2.2.1 M_X7_placeOf.2.2.2 ∈ lw_tbl := (List.mem_append_right _ (List.mem_of_getElem? (i := 523) (by decide +kernel)))
theorem ki_X7_placeOf : Cond.instanceMethod M_X7_placeOf.1 ∈ lw_tbl := (List.mem_append_right _ (List.mem_of_getElem? (i := 521) (by decide +kernel)))
theorem kl_X7_placeOf : Cond.selects M_X7_placeOf.1.cls M_X7_placeOf.1 M_X7_placeOf.1 ∈ lw_tbl := (List.mem_append_right _ (List.mem_of_getElem? (i := 522) (by decide +kernel)))
theorem kk_X7_isTogether : Cond.code M_X7_isTogether.1 M_X7_isTogether.2.1 M_X7_isTogether.2.2.1 M_X7_isTogether.2.2.2 ∈ lw_tbl := (List.mem_append_right _ (List.mem_of_getElem? (i := 511) (by decide +kernel)))
theorem ki_X7_isTogether : Cond.instanceMethod M_X7_isTogether.1 ∈ lw_tbl := (List.mem_append_right _ (List.mem_of_getElem? (i := 509) (by decide +kernel)))
theorem kl_X7_isTogether : Cond.selects M_X7_isTogether.1.cls M_X7_isTogether.1 M_X7_isTogether.1 ∈ lw_tbl := (List.mem_append_right _ (List.mem_of_getElem? (i := 510) (by decide +kernel)))
theorem kk_X7_row : Cond.code M_X7_row.1 M_X7_row.2.1 M_X7_row.2.2.1 M_X7_row.2.2.2 ∈ lw_tbl := (List.mem_append_right _ (List.mem_of_getElem? (i := 593) (by decide +kernel)))
theorem ki_X7_row : Cond.instanceMethod M_X7_row.1 ∈ lw_tbl := (List.mem_append_right _ (List.mem_of_getElem? (i := 592) (by decide +kernel)))
theorem kl_X7_row : Cond.selects M_X7_row.1.cls M_X7_row.1 M_X7_row.1 ∈ lw_tbl := (List.mem_append_left _ (by decide +kernel))
theorem kk_X7_total : Cond.code M_X7_total.1 M_X7_total.2.1 M_X7_total.2.2.1 M_X7_total.2.2.2 ∈ lw_tbl := (List.mem_append_right _ (List.mem_of_getElem? (i := 671) (by decide +kernel)))
theorem ki_X7_total : Cond.instanceMethod M_X7_total.1 ∈ lw_tbl := (List.mem_append_right _ (List.mem_of_getElem? (i := 669) (by decide +kernel)))
theorem kl_X7_total : Cond.selects M_X7_total.1.cls M_X7_total.1 M_X7_total.1 ∈ lw_tbl := (List.mem_append_right _ (List.mem_of_getElem? (i := 670) (by decide +kernel)))
theorem kk_X7_sumAt : Cond.code M_X7_sumAt.1 M_X7_sumAt.2.1 M_X7_sumAt.2.2.1 M_X7_sumAt.2.2.2 ∈ lw_tbl := (List.mem_append_right _ (List.mem_of_getElem? (i := 589) (by decide +kernel)))
theorem ki_X7_sumAt : Cond.instanceMethod M_X7_sumAt.1 ∈ lw_tbl := (List.mem_append_right _ (List.mem_of_getElem? (i := 587) (by decide +kernel)))
theorem kl_X7_sumAt : Cond.selects M_X7_sumAt.1.cls M_X7_sumAt.1 M_X7_sumAt.1 ∈ lw_tbl := (List.mem_append_right _ (List.mem_of_getElem? (i := 588) (by decide +kernel)))
theorem kk_X7_isHalvedBy : Cond.code M_X7_isHalvedBy.1 M_X7_isHalvedBy.2.1 M_X7_isHalvedBy.2.2.1 M_X7_isHalvedBy.2.2.2 ∈ lw_tbl := (List.mem_append_right _ (List.mem_of_getElem? (i := 605) (by decide +kernel)))
theorem ki_X7_isHalvedBy : Cond.instanceMethod M_X7_isHalvedBy.1 ∈ lw_tbl := (List.mem_append_right _ (List.mem_of_getElem? (i := 603) (by decide +kernel)))
theorem kl_X7_isHalvedBy : Cond.selects M_X7_isHalvedBy.1.cls M_X7_isHalvedBy.1 M_X7_isHalvedBy.1 ∈ lw_tbl := (List.mem_append_right _ (List.mem_of_getElem? (i := 604) (by decide +kernel)))
theorem kk_X7_turn : Cond.code M_X7_turn.1 M_X7_turn.2.1 M_X7_turn.2.2.1 M_X7_turn.2.2.2 ∈ lw_tbl := (List.mem_append_right _ (List.mem_of_getElem? (i := 519) (by decide +kernel)))
theorem ki_X7_turn : Cond.instanceMethod M_X7_turn.1 ∈ lw_tbl := (List.mem_append_right _ (List.mem_of_getElem? (i := 517) (by decide +kernel)))
theorem kl_X7_turn : Cond.selects M_X7_turn.1.cls M_X7_turn.1 M_X7_turn.1 ∈ lw_tbl := (List.mem_append_right _ (List.mem_of_getElem? (i := 518) (by decide +kernel)))
theorem kk_X8_findWidest : Cond.code M_X8_findWidest.1 M_X8_findWidest.2.1 M_X8_findWidest.2.2.1 M_X8_findWidest.2.2.2 ∈ lw_tbl := (List.mem_append_right _ (List.mem_of_getElem? (i := 727) (by decide +kernel)))
theorem ki_X8_findWidest : Cond.instanceMethod M_X8_findWidest.1 ∈ lw_tbl := (List.mem_append_right _ (List.mem_of_getElem? (i := 725) (by decide +kernel)))
theorem kl_X8_findWidest : Cond.selects M_X8_findWidest.1.cls M_X8_findWidest.1 M_X8_findWidest.1 ∈ lw_tbl := (List.mem_append_right _ (List.mem_of_getElem? (i := 726) (by decide +kernel)))
theorem kk_X8_consider : Cond.code M_X8_consider.1 M_X8_consider.2.1 M_X8_consider.2.2.1 M_X8_consider.2.2.2 ∈ lw_tbl := (List.mem_append_right _ (List.mem_of_getElem? (i := 731) (by decide +kernel)))
theorem ki_X8_consider : Cond.instanceMethod M_X8_consider.1 ∈ lw_tbl := (List.mem_append_right _ (List.mem_of_getElem? (i := 730) (by decide +kernel)))
theorem kl_X8_consider : Cond.selects M_X8_consider.1.cls M_X8_consider.1 M_X8_consider.1 ∈ lw_tbl := (List.mem_append_left _ (by decide +kernel))
theorem kk_X8_putInOrder : Cond.code M_X8_putInOrder.1 M_X8_putInOrder.2.1 M_X8_putInOrder.2.2.1 M_X8_putInOrder.2.2.2 ∈ lw_tbl := (List.mem_append_right _ (List.mem_of_getElem? (i := 735) (by decide +kernel)))
theorem ki_X8_putInOrder : Cond.instanceMethod M_X8_putInOrder.1 ∈ lw_tbl := (List.mem_append_right _ (List.mem_of_getElem? (i := 734) (by decide +kernel)))
theorem kl_X8_putInOrder : Cond.selects M_X8_putInOrder.1.cls M_X8_putInOrder.1 M_X8_putInOrder.1 ∈ lw_tbl := (List.mem_append_left _ (by decide +kernel))
theorem kk_X9_leave : Cond.code M_X9_leave.1 M_X9_leave.2.1 M_X9_leave.2.2.1 M_X9_leave.2.2.2 ∈ lw_tbl := (List.mem_append_right _ (List.mem_of_getElem? (i := 447) (by decide +kernel)))
theorem ki_X9_leave : Cond.instanceMethod M_X9_leave.1 ∈ lw_tbl := (List.mem_append_right _ (List.mem_of_getElem? (i := 445) (by decide +kernel)))
theorem kl_X9_leave : Cond.selects M_X9_leave.1.cls M_X9_leave.1 M_X9_leave.1 ∈ lw_tbl := (List.mem_append_right _ (List.mem_of_getElem? (i := 446) (by decide +kernel)))
theorem kk_X10_bed : Cond.code M_X10_bed.1 M_X10_bed.2.1 M_X10_bed.2.2.1 M_X10_bed.2.2.2 ∈ lw_tbl := (List.mem_append_right _ (List.mem_of_getElem? (i := 360) (by decide +kernel)))
theorem ki_X10_bed : Cond.instanceMethod M_X10_bed.1 ∈ lw_tbl := (List.mem_append_right _ (List.mem_of_getElem? (i := 358) (by decide +kernel)))
theorem kl_X10_bed : Cond.selects M_X10_bed.1.cls M_X10_bed.1 M_X10_bed.1 ∈ lw_tbl := (List.mem_append_right _ (List.mem_of_getElem? (i := 359) (by decide +kernel)))
theorem kk_X10_set : Cond.code M_X10_set.1 M_X10_set.2.1 M_X10_set.2.2.1 M_X10_set.2.2.2 ∈ lw_tbl := (List.mem_append_right _ (List.mem_of_getElem? (i := 384) (by decide +kernel)))
theorem ki_X10_set : Cond.instanceMethod M_X10_set.1 ∈ lw_tbl := (List.mem_append_right _ (List.mem_of_getElem? (i := 382) (by decide +kernel)))
theorem kl_X10_set : Cond.selects M_X10_set.1.cls M_X10_set.1 M_X10_set.1 ∈ lw_tbl := (List.mem_append_right _ (List.mem_of_getElem? (i := 383) (by decide +kernel)))
theorem kk_X10_drop : Cond.code M_X10_drop.1 M_X10_drop.2.1 M_X10_drop.2.2.1 M_X10_drop.2.2.2 ∈ lw_tbl := (List.mem_append_right _ (List.mem_of_getElem? (i := 397) (by decide +kernel)))
theorem ki_X10_drop : Cond.instanceMethod M_X10_drop.1 ∈ lw_tbl := (List.mem_append_right _ (List.mem_of_getElem? (i := 395) (by decide +kernel)))
theorem kl_X10_drop : Cond.selects M_X10_drop.1.cls M_X10_drop.1 M_X10_drop.1 ∈ lw_tbl := (List.mem_append_right _ (List.mem_of_getElem? (i := 396) (by decide +kernel)))
theorem kk_X10_copy : Cond.code M_X10_copy.1 M_X10_copy.2.1 M_X10_copy.2.2.1 M_X10_copy.2.2.2 ∈ lw_tbl := (List.mem_append_right _ (List.mem_of_getElem? (i := 401) (by decide +kernel)))
theorem ki_X10_copy : Cond.instanceMethod M_X10_copy.1 ∈ lw_tbl := (List.mem_append_right _ (List.mem_of_getElem? (i := 399) (by decide +kernel)))
theorem kl_X10_copy : Cond.selects M_X10_copy.1.cls M_X10_copy.1 M_X10_copy.1 ∈ lw_tbl := (List.mem_append_right _ (List.mem_of_getElem? (i := 400) (by decide +kernel)))
theorem kk_X10_plant : Cond.code M_X10_plant.1 M_X10_plant.2.1 M_X10_plant.2.2.1 M_X10_plant.2.2.2 ∈ lw_tbl := (List.mem_append_right _ (List.mem_of_getElem? (i := 408) (by decide +kernel)))
theorem ki_X10_plant : Cond.instanceMethod M_X10_plant.1 ∈ lw_tbl := (List.mem_append_right _ (List.mem_of_getElem? (i := 406) (by decide +kernel)))
theorem kl_X10_plant : Cond.selects M_X10_plant.1.cls M_X10_plant.1 M_X10_plant.1 ∈ lw_tbl := (List.mem_append_right _ (List.mem_of_getElem? (i := 407) (by decide +kernel)))
theorem kk_X10_move : Cond.code M_X10_move.1 M_X10_move.2.1 M_X10_move.2.2.1 M_X10_move.2.2.2 ∈ lw_tbl := (List.mem_append_right _ (List.mem_of_getElem? (i := 458) (by decide +kernel)))
theorem ki_X10_move : Cond.instanceMethod M_X10_move.1 ∈ lw_tbl := (List.mem_append_right _ (List.mem_of_getElem? (i := 456) (by decide +kernel)))
theorem kl_X10_move : Cond.selects M_X10_move.1.cls M_X10_move.1 M_X10_move.1 ∈ lw_tbl := (List.mem_append_right _ (List.mem_of_getElem? (i := 457) (by decide +kernel)))
theorem kk_X10_away : Cond.code M_X10_away.1 M_X10_away.2.1 M_X10_away.2.2.1 M_X10_away.2.2.2 ∈ lw_tbl := (List.mem_append_right _ (List.mem_of_getElem? (i := 466) (by decide +kernel)))
theorem ki_X10_away : Cond.instanceMethod M_X10_away.1 ∈ lw_tbl := (List.mem_append_right _ (List.mem_of_getElem? (i := 464) (by decide +kernel)))
theorem kl_X10_away : Cond.selects M_X10_away.1.cls M_X10_away.1 M_X10_away.1 ∈ lw_tbl := (List.mem_append_right _ (List.mem_of_getElem? (i := 465) (by decide +kernel)))
theorem kk_X10_colour : Cond.code M_X10_colour.1 M_X10_colour.2.1 M_X10_colour.2.2.1 M_X10_colour.2.2.2 ∈ lw_tbl := (List.mem_append_right _ (List.mem_of_getElem? (i := 482) (by decide +kernel)))
theorem ki_X10_colour : Cond.instanceMethod M_X10_colour.1 ∈ lw_tbl := (List.mem_append_right _ (List.mem_of_getElem? (i := 480) (by decide +kernel)))
theorem kl_X10_colour : Cond.selects M_X10_colour.1.cls M_X10_colour.1 M_X10_colour.1 ∈ lw_tbl := (List.mem_append_right _ (List.mem_of_getElem? (i := 481) (by decide +kernel)))
theorem kk_X10_told : Cond.code M_X10_told.1 M_X10_told.2.1 M_X10_told.2.2.1 M_X10_told.2.2.2 ∈ lw_tbl := (List.mem_append_right _ (List.mem_of_getElem? (i := 487) (by decide +kernel)))
theorem ki_X10_told : Cond.instanceMethod M_X10_told.1 ∈ lw_tbl := (List.mem_append_right _ (List.mem_of_getElem? (i := 485) (by decide +kernel)))
theorem kl_X10_told : Cond.selects M_X10_told.1.cls M_X10_told.1 M_X10_told.1 ∈ lw_tbl := (List.mem_append_right _ (List.mem_of_getElem? (i := 486) (by decide +kernel)))
theorem kk_X10_is : Cond.code M_X10_is.1 M_X10_is.2.1 M_X10_is.2.2.1 M_X10_is.2.2.2 ∈ lw_tbl := (List.mem_append_right _ (List.mem_of_getElem? (i := 532) (by decide +kernel)))
theorem ki_X10_is : Cond.instanceMethod M_X10_is.1 ∈ lw_tbl := (List.mem_append_right _ (List.mem_of_getElem? (i := 530) (by decide +kernel)))
theorem kl_X10_is : Cond.selects M_X10_is.1.cls M_X10_is.1 M_X10_is.1 ∈ lw_tbl := (List.mem_append_right _ (List.mem_of_getElem? (i := 531) (by decide +kernel)))
theorem kk_X10_ask : Cond.code M_X10_ask.1 M_X10_ask.2.1 M_X10_ask.2.2.1 M_X10_ask.2.2.2 ∈ lw_tbl := (List.mem_append_right _ (List.mem_of_getElem? (i := 542) (by decide +kernel)))
theorem ki_X10_ask : Cond.instanceMethod M_X10_ask.1 ∈ lw_tbl := (List.mem_append_right _ (List.mem_of_getElem? (i := 540) (by decide +kernel)))
theorem kl_X10_ask : Cond.selects M_X10_ask.1.cls M_X10_ask.1 M_X10_ask.1 ∈ lw_tbl := (List.mem_append_right _ (List.mem_of_getElem? (i := 541) (by decide +kernel)))
theorem kk_X10_trace : Cond.code M_X10_trace.1 M_X10_trace.2.1 M_X10_trace.2.2.1 M_X10_trace.2.2.2 ∈ lw_tbl := (List.mem_append_right _ (List.mem_of_getElem? (i := 550) (by decide +kernel)))
theorem ki_X10_trace : Cond.instanceMethod M_X10_trace.1 ∈ lw_tbl := (List.mem_append_right _ (List.mem_of_getElem? (i := 548) (by decide +kernel)))
theorem kl_X10_trace : Cond.selects M_X10_trace.1.cls M_X10_trace.1 M_X10_trace.1 ∈ lw_tbl := (List.mem_append_right _ (List.mem_of_getElem? (i := 549) (by decide +kernel)))
theorem kk_X10_undo : Cond.code M_X10_undo.1 M_X10_undo.2.1 M_X10_undo.2.2.1 M_X10_undo.2.2.2 ∈ lw_tbl := (List.mem_append_right _ (List.mem_of_getElem? (i := 555) (by decide +kernel)))
theorem ki_X10_undo : Cond.instanceMethod M_X10_undo.1 ∈ lw_tbl := (List.mem_append_right _ (List.mem_of_getElem? (i := 553) (by decide +kernel)))
theorem kl_X10_undo : Cond.selects M_X10_undo.1.cls M_X10_undo.1 M_X10_undo.1 ∈ lw_tbl := (List.mem_append_right _ (List.mem_of_getElem? (i := 554) (by decide +kernel)))
theorem kk_X10_line : Cond.code M_X10_line.1 M_X10_line.2.1 M_X10_line.2.2.1 M_X10_line.2.2.2 ∈ lw_tbl := (List.mem_append_right _ (List.mem_of_getElem? (i := 560) (by decide +kernel)))
theorem ki_X10_line : Cond.instanceMethod M_X10_line.1 ∈ lw_tbl := (List.mem_append_right _ (List.mem_of_getElem? (i := 558) (by decide +kernel)))
theorem kl_X10_line : Cond.selects M_X10_line.1.cls M_X10_line.1 M_X10_line.1 ∈ lw_tbl := (List.mem_append_right _ (List.mem_of_getElem? (i := 559) (by decide +kernel)))
theorem kk_X10_through : Cond.code M_X10_through.1 M_X10_through.2.1 M_X10_through.2.2.1 M_X10_through.2.2.2 ∈ lw_tbl := (List.mem_append_right _ (List.mem_of_getElem? (i := 572) (by decide +kernel)))
theorem ki_X10_through : Cond.instanceMethod M_X10_through.1 ∈ lw_tbl := (List.mem_append_right _ (List.mem_of_getElem? (i := 570) (by decide +kernel)))
theorem kl_X10_through : Cond.selects M_X10_through.1.cls M_X10_through.1 M_X10_through.1 ∈ lw_tbl := (List.mem_append_right _ (List.mem_of_getElem? (i := 571) (by decide +kernel)))
theorem kk_X10_lineAt : Cond.code M_X10_lineAt.1 M_X10_lineAt.2.1 M_X10_lineAt.2.2.1 M_X10_lineAt.2.2.2 ∈ lw_tbl := (List.mem_append_right _ (List.mem_of_getElem? (i := 581) (by decide +kernel)))
theorem ki_X10_lineAt : Cond.instanceMethod M_X10_lineAt.1 ∈ lw_tbl := (List.mem_append_right _ (List.mem_of_getElem? (i := 579) (by decide +kernel)))
theorem kl_X10_lineAt : Cond.selects M_X10_lineAt.1.cls M_X10_lineAt.1 M_X10_lineAt.1 ∈ lw_tbl := (List.mem_append_right _ (List.mem_of_getElem? (i := 580) (by decide +kernel)))
theorem kk_X10_side : Cond.code M_X10_side.1 M_X10_side.2.1 M_X10_side.2.2.1 M_X10_side.2.2.2 ∈ lw_tbl := (List.mem_append_right _ (List.mem_of_getElem? (i := 585) (by decide +kernel)))
theorem ki_X10_side : Cond.instanceMethod M_X10_side.1 ∈ lw_tbl := (List.mem_append_right _ (List.mem_of_getElem? (i := 583) (by decide +kernel)))
theorem kl_X10_side : Cond.selects M_X10_side.1.cls M_X10_side.1 M_X10_side.1 ∈ lw_tbl := (List.mem_append_right _ (List.mem_of_getElem? (i := 584) (by decide +kernel)))
theorem kk_X10_halves : Cond.code M_X10_halves.1 M_X10_halves.2.1 M_X10_halves.2.2.1 M_X10_halves.2.2.2 ∈ lw_tbl := (List.mem_append_right _ (List.mem_of_getElem? (i := 601) (by decide +kernel)))
theorem ki_X10_halves : Cond.instanceMethod M_X10_halves.1 ∈ lw_tbl := (List.mem_append_right _ (List.mem_of_getElem? (i := 599) (by decide +kernel)))
theorem kl_X10_halves : Cond.selects M_X10_halves.1.cls M_X10_halves.1 M_X10_halves.1 ∈ lw_tbl := (List.mem_append_right _ (List.mem_of_getElem? (i := 600) (by decide +kernel)))
theorem kk_X10_furrow : Cond.code M_X10_furrow.1 M_X10_furrow.2.1 M_X10_furrow.2.2.1 M_X10_furrow.2.2.2 ∈ lw_tbl := (List.mem_append_right _ (List.mem_of_getElem? (i := 609) (by decide +kernel)))
theorem ki_X10_furrow : Cond.instanceMethod M_X10_furrow.1 ∈ lw_tbl := (List.mem_append_right _ (List.mem_of_getElem? (i := 607) (by decide +kernel)))
theorem kl_X10_furrow : Cond.selects M_X10_furrow.1.cls M_X10_furrow.1 M_X10_furrow.1 ∈ lw_tbl := (List.mem_append_right _ (List.mem_of_getElem? (i := 608) (by decide +kernel)))
theorem kk_X10_furrows : Cond.code M_X10_furrows.1 M_X10_furrows.2.1 M_X10_furrows.2.2.1 M_X10_furrows.2.2.2 ∈ lw_tbl := (List.mem_append_right _ (List.mem_of_getElem? (i := 655) (by decide +kernel)))
theorem ki_X10_furrows : Cond.instanceMethod M_X10_furrows.1 ∈ lw_tbl := (List.mem_append_right _ (List.mem_of_getElem? (i := 653) (by decide +kernel)))
theorem kl_X10_furrows : Cond.selects M_X10_furrows.1.cls M_X10_furrows.1 M_X10_furrows.1 ∈ lw_tbl := (List.mem_append_right _ (List.mem_of_getElem? (i := 654) (by decide +kernel)))
theorem kk_X10_depth : Cond.code M_X10_depth.1 M_X10_depth.2.1 M_X10_depth.2.2.1 M_X10_depth.2.2.2 ∈ lw_tbl := (List.mem_append_right _ (List.mem_of_getElem? (i := 659) (by decide +kernel)))
theorem ki_X10_depth : Cond.instanceMethod M_X10_depth.1 ∈ lw_tbl := (List.mem_append_right _ (List.mem_of_getElem? (i := 657) (by decide +kernel)))
theorem kl_X10_depth : Cond.selects M_X10_depth.1.cls M_X10_depth.1 M_X10_depth.1 ∈ lw_tbl := (List.mem_append_right _ (List.mem_of_getElem? (i := 658) (by decide +kernel)))
theorem kk_X10_deepest : Cond.code M_X10_deepest.1 M_X10_deepest.2.1 M_X10_deepest.2.2.1 M_X10_deepest.2.2.2 ∈ lw_tbl := (List.mem_append_right _ (List.mem_of_getElem? (i := 680) (by decide +kernel)))
theorem ki_X10_deepest : Cond.instanceMethod M_X10_deepest.1 ∈ lw_tbl := (List.mem_append_right _ (List.mem_of_getElem? (i := 678) (by decide +kernel)))
theorem kl_X10_deepest : Cond.selects M_X10_deepest.1.cls M_X10_deepest.1 M_X10_deepest.1 ∈ lw_tbl := (List.mem_append_right _ (List.mem_of_getElem? (i := 679) (by decide +kernel)))
theorem kk_X10_layer : Cond.code M_X10_layer.1 M_X10_layer.2.1 M_X10_layer.2.2.1 M_X10_layer.2.2.2 ∈ lw_tbl := (List.mem_append_right _ (List.mem_of_getElem? (i := 711) (by decide +kernel)))
theorem ki_X10_layer : Cond.instanceMethod M_X10_layer.1 ∈ lw_tbl := (List.mem_append_right _ (List.mem_of_getElem? (i := 709) (by decide +kernel)))
theorem kl_X10_layer : Cond.selects M_X10_layer.1.cls M_X10_layer.1 M_X10_layer.1 ∈ lw_tbl := (List.mem_append_right _ (List.mem_of_getElem? (i := 710) (by decide +kernel)))
theorem kk_X10_widest : Cond.code M_X10_widest.1 M_X10_widest.2.1 M_X10_widest.2.2.1 M_X10_widest.2.2.2 ∈ lw_tbl := (List.mem_append_right _ (List.mem_of_getElem? (i := 723) (by decide +kernel)))
theorem ki_X10_widest : Cond.instanceMethod M_X10_widest.1 ∈ lw_tbl := (List.mem_append_right _ (List.mem_of_getElem? (i := 721) (by decide +kernel)))
theorem kl_X10_widest : Cond.selects M_X10_widest.1.cls M_X10_widest.1 M_X10_widest.1 ∈ lw_tbl := (List.mem_append_right _ (List.mem_of_getElem? (i := 722) (by decide +kernel)))
theorem kk_X10_count : Cond.code M_X10_count.1 M_X10_count.2.1 M_X10_count.2.2.1 M_X10_count.2.2.2 ∈ lw_tbl := (List.mem_append_right _ (List.mem_of_getElem? (i := 743) (by decide +kernel)))
theorem ki_X10_count : Cond.instanceMethod M_X10_count.1 ∈ lw_tbl := (List.mem_append_right _ (List.mem_of_getElem? (i := 741) (by decide +kernel)))
theorem kl_X10_count : Cond.selects M_X10_count.1.cls M_X10_count.1 M_X10_count.1 ∈ lw_tbl := (List.mem_append_right _ (List.mem_of_getElem? (i := 742) (by decide +kernel)))
theorem kk_X10_status : Cond.code M_X10_status.1 M_X10_status.2.1 M_X10_status.2.2.1 M_X10_status.2.2.2 ∈ lw_tbl := (List.mem_append_right _ (List.mem_of_getElem? (i := 752) (by decide +kernel)))
theorem ki_X10_status : Cond.instanceMethod M_X10_status.1 ∈ lw_tbl := (List.mem_append_right _ (List.mem_of_getElem? (i := 750) (by decide +kernel)))
theorem kl_X10_status : Cond.selects M_X10_status.1.cls M_X10_status.1 M_X10_status.1 ∈ lw_tbl := (List.mem_append_right _ (List.mem_of_getElem? (i := 751) (by decide +kernel)))
theorem kk_X10_found : Cond.code M_X10_found.1 M_X10_found.2.1 M_X10_found.2.2.1 M_X10_found.2.2.2 ∈ lw_tbl := (List.mem_append_right _ (List.mem_of_getElem? (i := 371) (by decide +kernel)))
theorem ki_X10_found : Cond.instanceMethod M_X10_found.1 ∈ lw_tbl := (List.mem_append_right _ (List.mem_of_getElem? (i := 370) (by decide +kernel)))
theorem kl_X10_found : Cond.selects M_X10_found.1.cls M_X10_found.1 M_X10_found.1 ∈ lw_tbl := (List.mem_append_left _ (by decide +kernel))
theorem kk_X10_done : Cond.code M_X10_done.1 M_X10_done.2.1 M_X10_done.2.2.1 M_X10_done.2.2.2 ∈ lw_tbl := (List.mem_append_right _ (List.mem_of_getElem? (i := 380) (by decide +kernel)))
theorem ki_X10_done : Cond.instanceMethod M_X10_done.1 ∈ lw_tbl := (List.mem_append_right _ (List.mem_of_getElem? (i := 379) (by decide +kernel)))
theorem kl_X10_done : Cond.selects M_X10_done.1.cls M_X10_done.1 M_X10_done.1 ∈ lw_tbl := (List.mem_append_left _ (by decide +kernel))
theorem kk_X10_isGiven : Cond.code M_X10_isGiven.1 M_X10_isGiven.2.1 M_X10_isGiven.2.2.1 M_X10_isGiven.2.2.2 ∈ lw_tbl := (List.mem_append_right _ (List.mem_of_getElem? (i := 462) (by decide +kernel)))
theorem ki_X10_isGiven : Cond.instanceMethod M_X10_isGiven.1 ∈ lw_tbl := (List.mem_append_right _ (List.mem_of_getElem? (i := 461) (by decide +kernel)))
theorem kl_X10_isGiven : Cond.selects M_X10_isGiven.1.cls M_X10_isGiven.1 M_X10_isGiven.1 ∈ lw_tbl := (List.mem_append_left _ (by decide +kernel))
theorem kk_X10_bedsThere : Cond.code M_X10_bedsThere.1 M_X10_bedsThere.2.1 M_X10_bedsThere.2.2.1 M_X10_bedsThere.2.2.2 ∈ lw_tbl := (List.mem_append_right _ (List.mem_of_getElem? (i := 747) (by decide +kernel)))
theorem ki_X10_bedsThere : Cond.instanceMethod M_X10_bedsThere.1 ∈ lw_tbl := (List.mem_append_right _ (List.mem_of_getElem? (i := 746) (by decide +kernel)))
theorem kl_X10_bedsThere : Cond.selects M_X10_bedsThere.1.cls M_X10_bedsThere.1 M_X10_bedsThere.1 ∈ lw_tbl := (List.mem_append_left _ (by decide +kernel))
theorem kk_X10_keepForUndo : Cond.code M_X10_keepForUndo.1 M_X10_keepForUndo.2.1 M_X10_keepForUndo.2.2.1 M_X10_keepForUndo.2.2.2 ∈ lw_tbl := (List.mem_append_right _ (List.mem_of_getElem? (i := 420) (by decide +kernel)))
theorem ki_X10_keepForUndo : Cond.instanceMethod M_X10_keepForUndo.1 ∈ lw_tbl := (List.mem_append_right _ (List.mem_of_getElem? (i := 419) (by decide +kernel)))
theorem kl_X10_keepForUndo : Cond.selects M_X10_keepForUndo.1.cls M_X10_keepForUndo.1 M_X10_keepForUndo.1 ∈ lw_tbl := (List.mem_append_left _ (by decide +kernel))
theorem kk_X10_forget : Cond.code M_X10_forget.1 M_X10_forget.2.1 M_X10_forget.2.2.1 M_X10_forget.2.2.2 ∈ lw_tbl := (List.mem_append_right _ (List.mem_of_getElem? (i := 454) (by decide +kernel)))
theorem ki_X10_forget : Cond.instanceMethod M_X10_forget.1 ∈ lw_tbl := (List.mem_append_right _ (List.mem_of_getElem? (i := 453) (by decide +kernel)))
theorem kl_X10_forget : Cond.selects M_X10_forget.1.cls M_X10_forget.1 M_X10_forget.1 ∈ lw_tbl := (List.mem_append_left _ (by decide +kernel))
theorem kk_X10_gathered : Cond.code M_X10_gathered.1 M_X10_gathered.2.1 M_X10_gathered.2.2.1 M_X10_gathered.2.2.2 ∈ lw_tbl := (List.mem_append_right _ (List.mem_of_getElem? (i := 470) (by decide +kernel)))
theorem ki_X10_gathered : Cond.instanceMethod M_X10_gathered.1 ∈ lw_tbl := (List.mem_append_right _ (List.mem_of_getElem? (i := 469) (by decide +kernel)))
theorem kl_X10_gathered : Cond.selects M_X10_gathered.1.cls M_X10_gathered.1 M_X10_gathered.1 ∈ lw_tbl := (List.mem_append_left _ (by decide +kernel))
theorem kk_X10_joined : Cond.code M_X10_joined.1 M_X10_joined.2.1 M_X10_joined.2.2.1 M_X10_joined.2.2.2 ∈ lw_tbl := (List.mem_append_right _ (List.mem_of_getElem? (i := 613) (by decide +kernel)))
theorem ki_X10_joined : Cond.instanceMethod M_X10_joined.1 ∈ lw_tbl := (List.mem_append_right _ (List.mem_of_getElem? (i := 612) (by decide +kernel)))
theorem kl_X10_joined : Cond.selects M_X10_joined.1.cls M_X10_joined.1 M_X10_joined.1 ∈ lw_tbl := (List.mem_append_left _ (by decide +kernel))
theorem kk_X10_peeled : Cond.code M_X10_peeled.1 M_X10_peeled.2.1 M_X10_peeled.2.2.1 M_X10_peeled.2.2.2 ∈ lw_tbl := (List.mem_append_right _ (List.mem_of_getElem? (i := 491) (by decide +kernel)))
theorem ki_X10_peeled : Cond.instanceMethod M_X10_peeled.1 ∈ lw_tbl := (List.mem_append_right _ (List.mem_of_getElem? (i := 490) (by decide +kernel)))
theorem kl_X10_peeled : Cond.selects M_X10_peeled.1.cls M_X10_peeled.1 M_X10_peeled.1 ∈ lw_tbl := (List.mem_append_left _ (by decide +kernel))
theorem kk_X10_isBelow : Cond.code M_X10_isBelow.1 M_X10_isBelow.2.1 M_X10_isBelow.2.2.1 M_X10_isBelow.2.2.2 ∈ lw_tbl := (List.mem_append_right _ (List.mem_of_getElem? (i := 366) (by decide +kernel)))
theorem kt_X10_isBelow : Cond.static M_X10_isBelow.1 ∈ lw_tbl := (List.mem_append_right _ (List.mem_of_getElem? (i := 365) (by decide +kernel)))
theorem kk_X10_isWithin : Cond.code M_X10_isWithin.1 M_X10_isWithin.2.1 M_X10_isWithin.2.2.1 M_X10_isWithin.2.2.2 ∈ lw_tbl := (List.mem_append_right _ (List.mem_of_getElem? (i := 416) (by decide +kernel)))
theorem kt_X10_isWithin : Cond.static M_X10_isWithin.1 ∈ lw_tbl := (List.mem_append_right _ (List.mem_of_getElem? (i := 415) (by decide +kernel)))
theorem kk_X10_isInField : Cond.code M_X10_isInField.1 M_X10_isInField.2.1 M_X10_isInField.2.2.1 M_X10_isInField.2.2.2 ∈ lw_tbl := (List.mem_append_right _ (List.mem_of_getElem? (i := 412) (by decide +kernel)))
theorem kt_X10_isInField : Cond.static M_X10_isInField.1 ∈ lw_tbl := (List.mem_append_right _ (List.mem_of_getElem? (i := 411) (by decide +kernel)))
theorem kk_X10_isBed : Cond.code M_X10_isBed.1 M_X10_isBed.2.1 M_X10_isBed.2.2.1 M_X10_isBed.2.2.2 ∈ lw_tbl := (List.mem_append_right _ (List.mem_of_getElem? (i := 363) (by decide +kernel)))
theorem kt_X10_isBed : Cond.static M_X10_isBed.1 ∈ lw_tbl := (List.mem_append_right _ (List.mem_of_getElem? (i := 362) (by decide +kernel)))
theorem kk_X10_commonDivisor : Cond.code M_X10_commonDivisor.1 M_X10_commonDivisor.2.1 M_X10_commonDivisor.2.2.1 M_X10_commonDivisor.2.2.2 ∈ lw_tbl := (List.mem_append_right _ (List.mem_of_getElem? (i := 568) (by decide +kernel)))
theorem kt_X10_commonDivisor : Cond.static M_X10_commonDivisor.1 ∈ lw_tbl := (List.mem_append_right _ (List.mem_of_getElem? (i := 567) (by decide +kernel)))
theorem kk_X10_without : Cond.code M_X10_without.1 M_X10_without.2.1 M_X10_without.2.2.1 M_X10_without.2.2.2 ∈ lw_tbl := (List.mem_append_right _ (List.mem_of_getElem? (i := 706) (by decide +kernel)))
theorem kt_X10_without : Cond.static M_X10_without.1 ∈ lw_tbl := (List.mem_append_right _ (List.mem_of_getElem? (i := 705) (by decide +kernel)))
theorem kk_X11_in : Cond.code M_X11_in.1 M_X11_in.2.1 M_X11_in.2.2.1 M_X11_in.2.2.2 ∈ lw_tbl := (List.mem_append_right _ (List.mem_of_getElem? (i := 892) (by decide +kernel)))
theorem kt_X11_in : Cond.static M_X11_in.1 ∈ lw_tbl := (List.mem_append_right _ (List.mem_of_getElem? (i := 891) (by decide +kernel)))
theorem kk_X11_finds : Cond.code M_X11_finds.1 M_X11_finds.2.1 M_X11_finds.2.2.1 M_X11_finds.2.2.2 ∈ lw_tbl := (List.mem_append_right _ (List.mem_of_getElem? (i := 898) (by decide +kernel)))
theorem ki_X11_finds : Cond.instanceMethod M_X11_finds.1 ∈ lw_tbl := (List.mem_append_right _ (List.mem_of_getElem? (i := 897) (by decide +kernel)))
theorem kl_X11_finds : Cond.selects M_X11_finds.1.cls M_X11_finds.1 M_X11_finds.1 ∈ lw_tbl := (List.mem_append_left _ (by decide +kernel))
theorem kk_X11_well : Cond.code M_X11_well.1 M_X11_well.2.1 M_X11_well.2.2.1 M_X11_well.2.2.2 ∈ lw_tbl := (List.mem_append_right _ (List.mem_of_getElem? (i := 903) (by decide +kernel)))
theorem ki_X11_well : Cond.instanceMethod M_X11_well.1 ∈ lw_tbl := (List.mem_append_right _ (List.mem_of_getElem? (i := 902) (by decide +kernel)))
theorem kl_X11_well : Cond.selects M_X11_well.1.cls M_X11_well.1 M_X11_well.1 ∈ lw_tbl := (List.mem_append_left _ (by decide +kernel))
theorem kk_X11_isBed : Cond.code M_X11_isBed.1 M_X11_isBed.2.1 M_X11_isBed.2.2.1 M_X11_isBed.2.2.2 ∈ lw_tbl := (List.mem_append_right _ (List.mem_of_getElem? (i := 888) (by decide +kernel)))
theorem kt_X11_isBed : Cond.static M_X11_isBed.1 ∈ lw_tbl := (List.mem_append_right _ (List.mem_of_getElem? (i := 887) (by decide +kernel)))
theorem kk_X11_bed : Cond.code M_X11_bed.1 M_X11_bed.2.1 M_X11_bed.2.2.1 M_X11_bed.2.2.2 ∈ lw_tbl := (List.mem_append_right _ (List.mem_of_getElem? (i := 885) (by decide +kernel)))
theorem ki_X11_bed : Cond.instanceMethod M_X11_bed.1 ∈ lw_tbl := (List.mem_append_right _ (List.mem_of_getElem? (i := 883) (by decide +kernel)))
theorem kl_X11_bed : Cond.selects M_X11_bed.1.cls M_X11_bed.1 M_X11_bed.1 ∈ lw_tbl := (List.mem_append_right _ (List.mem_of_getElem? (i := 884) (by decide +kernel)))
theorem kk_X11_set : Cond.code M_X11_set.1 M_X11_set.2.1 M_X11_set.2.2.1 M_X11_set.2.2.2 ∈ lw_tbl := (List.mem_append_right _ (List.mem_of_getElem? (i := 907) (by decide +kernel)))
theorem ki_X11_set : Cond.instanceMethod M_X11_set.1 ∈ lw_tbl := (List.mem_append_right _ (List.mem_of_getElem? (i := 905) (by decide +kernel)))
theorem kl_X11_set : Cond.selects M_X11_set.1.cls M_X11_set.1 M_X11_set.1 ∈ lw_tbl := (List.mem_append_right _ (List.mem_of_getElem? (i := 906) (by decide +kernel)))
theorem kk_X11_drop : Cond.code M_X11_drop.1 M_X11_drop.2.1 M_X11_drop.2.2.1 M_X11_drop.2.2.2 ∈ lw_tbl := (List.mem_append_right _ (List.mem_of_getElem? (i := 912) (by decide +kernel)))
theorem ki_X11_drop : Cond.instanceMethod M_X11_drop.1 ∈ lw_tbl := (List.mem_append_right _ (List.mem_of_getElem? (i := 910) (by decide +kernel)))
theorem kl_X11_drop : Cond.selects M_X11_drop.1.cls M_X11_drop.1 M_X11_drop.1 ∈ lw_tbl := (List.mem_append_right _ (List.mem_of_getElem? (i := 911) (by decide +kernel)))
theorem kk_X11_copy : Cond.code M_X11_copy.1 M_X11_copy.2.1 M_X11_copy.2.2.1 M_X11_copy.2.2.2 ∈ lw_tbl := (List.mem_append_right _ (List.mem_of_getElem? (i := 916) (by decide +kernel)))
theorem ki_X11_copy : Cond.instanceMethod M_X11_copy.1 ∈ lw_tbl := (List.mem_append_right _ (List.mem_of_getElem? (i := 914) (by decide +kernel)))
theorem kl_X11_copy : Cond.selects M_X11_copy.1.cls M_X11_copy.1 M_X11_copy.1 ∈ lw_tbl := (List.mem_append_right _ (List.mem_of_getElem? (i := 915) (by decide +kernel)))
theorem kk_X11_isPlant : Cond.code M_X11_isPlant.1 M_X11_isPlant.2.1 M_X11_isPlant.2.2.1 M_X11_isPlant.2.2.2 ∈ lw_tbl := (List.mem_append_right _ (List.mem_of_getElem? (i := 936) (by decide +kernel)))
theorem ki_X11_isPlant : Cond.instanceMethod M_X11_isPlant.1 ∈ lw_tbl := (List.mem_append_right _ (List.mem_of_getElem? (i := 935) (by decide +kernel)))
theorem kl_X11_isPlant : Cond.selects M_X11_isPlant.1.cls M_X11_isPlant.1 M_X11_isPlant.1 ∈ lw_tbl := (List.mem_append_left _ (by decide +kernel))
theorem kk_X11_keep : Cond.code M_X11_keep.1 M_X11_keep.2.1 M_X11_keep.2.2.1 M_X11_keep.2.2.2 ∈ lw_tbl := (List.mem_append_right _ (List.mem_of_getElem? (i := 928) (by decide +kernel)))
theorem ki_X11_keep : Cond.instanceMethod M_X11_keep.1 ∈ lw_tbl := (List.mem_append_right _ (List.mem_of_getElem? (i := 927) (by decide +kernel)))
theorem kl_X11_keep : Cond.selects M_X11_keep.1.cls M_X11_keep.1 M_X11_keep.1 ∈ lw_tbl := (List.mem_append_left _ (by decide +kernel))
theorem kk_X11_plant : Cond.code M_X11_plant.1 M_X11_plant.2.1 M_X11_plant.2.2.1 M_X11_plant.2.2.2 ∈ lw_tbl := (List.mem_append_right _ (List.mem_of_getElem? (i := 920) (by decide +kernel)))
theorem ki_X11_plant : Cond.instanceMethod M_X11_plant.1 ∈ lw_tbl := (List.mem_append_right _ (List.mem_of_getElem? (i := 918) (by decide +kernel)))
theorem kl_X11_plant : Cond.selects M_X11_plant.1.cls M_X11_plant.1 M_X11_plant.1 ∈ lw_tbl := (List.mem_append_right _ (List.mem_of_getElem? (i := 919) (by decide +kernel)))
theorem kk_X11_move : Cond.code M_X11_move.1 M_X11_move.2.1 M_X11_move.2.2.1 M_X11_move.2.2.2 ∈ lw_tbl := (List.mem_append_right _ (List.mem_of_getElem? (i := 932) (by decide +kernel)))
theorem ki_X11_move : Cond.instanceMethod M_X11_move.1 ∈ lw_tbl := (List.mem_append_right _ (List.mem_of_getElem? (i := 930) (by decide +kernel)))
theorem kl_X11_move : Cond.selects M_X11_move.1.cls M_X11_move.1 M_X11_move.1 ∈ lw_tbl := (List.mem_append_right _ (List.mem_of_getElem? (i := 931) (by decide +kernel)))
theorem kk_X11_there : Cond.code M_X11_there.1 M_X11_there.2.1 M_X11_there.2.2.1 M_X11_there.2.2.2 ∈ lw_tbl := (List.mem_append_right _ (List.mem_of_getElem? (i := 944) (by decide +kernel)))
theorem ki_X11_there : Cond.instanceMethod M_X11_there.1 ∈ lw_tbl := (List.mem_append_right _ (List.mem_of_getElem? (i := 943) (by decide +kernel)))
theorem kl_X11_there : Cond.selects M_X11_there.1.cls M_X11_there.1 M_X11_there.1 ∈ lw_tbl := (List.mem_append_left _ (by decide +kernel))
theorem kk_X11_away : Cond.code M_X11_away.1 M_X11_away.2.1 M_X11_away.2.2.1 M_X11_away.2.2.2 ∈ lw_tbl := (List.mem_append_right _ (List.mem_of_getElem? (i := 940) (by decide +kernel)))
theorem ki_X11_away : Cond.instanceMethod M_X11_away.1 ∈ lw_tbl := (List.mem_append_right _ (List.mem_of_getElem? (i := 938) (by decide +kernel)))
theorem kl_X11_away : Cond.selects M_X11_away.1.cls M_X11_away.1 M_X11_away.1 ∈ lw_tbl := (List.mem_append_right _ (List.mem_of_getElem? (i := 939) (by decide +kernel)))
theorem kk_X11_colour : Cond.code M_X11_colour.1 M_X11_colour.2.1 M_X11_colour.2.2.1 M_X11_colour.2.2.2 ∈ lw_tbl := (List.mem_append_right _ (List.mem_of_getElem? (i := 948) (by decide +kernel)))
theorem ki_X11_colour : Cond.instanceMethod M_X11_colour.1 ∈ lw_tbl := (List.mem_append_right _ (List.mem_of_getElem? (i := 946) (by decide +kernel)))
theorem kl_X11_colour : Cond.selects M_X11_colour.1.cls M_X11_colour.1 M_X11_colour.1 ∈ lw_tbl := (List.mem_append_right _ (List.mem_of_getElem? (i := 947) (by decide +kernel)))
theorem kk_X11_told : Cond.code M_X11_told.1 M_X11_told.2.1 M_X11_told.2.2.1 M_X11_told.2.2.2 ∈ lw_tbl := (List.mem_append_right _ (List.mem_of_getElem? (i := 952) (by decide +kernel)))
theorem ki_X11_told : Cond.instanceMethod M_X11_told.1 ∈ lw_tbl := (List.mem_append_right _ (List.mem_of_getElem? (i := 950) (by decide +kernel)))
theorem kl_X11_told : Cond.selects M_X11_told.1.cls M_X11_told.1 M_X11_told.1 ∈ lw_tbl := (List.mem_append_right _ (List.mem_of_getElem? (i := 951) (by decide +kernel)))
theorem kk_X11_isOf : Cond.code M_X11_isOf.1 M_X11_isOf.2.1 M_X11_isOf.2.2.1 M_X11_isOf.2.2.2 ∈ lw_tbl := (List.mem_append_right _ (List.mem_of_getElem? (i := 984) (by decide +kernel)))
theorem ki_X11_isOf : Cond.instanceMethod M_X11_isOf.1 ∈ lw_tbl := (List.mem_append_right _ (List.mem_of_getElem? (i := 983) (by decide +kernel)))
theorem kl_X11_isOf : Cond.selects M_X11_isOf.1.cls M_X11_isOf.1 M_X11_isOf.1 ∈ lw_tbl := (List.mem_append_left _ (by decide +kernel))
theorem kk_X11_is : Cond.code M_X11_is.1 M_X11_is.2.1 M_X11_is.2.2.1 M_X11_is.2.2.2 ∈ lw_tbl := (List.mem_append_right _ (List.mem_of_getElem? (i := 980) (by decide +kernel)))
theorem ki_X11_is : Cond.instanceMethod M_X11_is.1 ∈ lw_tbl := (List.mem_append_right _ (List.mem_of_getElem? (i := 978) (by decide +kernel)))
theorem kl_X11_is : Cond.selects M_X11_is.1.cls M_X11_is.1 M_X11_is.1 ∈ lw_tbl := (List.mem_append_right _ (List.mem_of_getElem? (i := 979) (by decide +kernel)))
theorem kk_X11_begins : Cond.code M_X11_begins.1 M_X11_begins.2.1 M_X11_begins.2.2.1 M_X11_begins.2.2.2 ∈ lw_tbl := (List.mem_append_right _ (List.mem_of_getElem? (i := 1000) (by decide +kernel)))
theorem ki_X11_begins : Cond.instanceMethod M_X11_begins.1 ∈ lw_tbl := (List.mem_append_right _ (List.mem_of_getElem? (i := 999) (by decide +kernel)))
theorem kl_X11_begins : Cond.selects M_X11_begins.1.cls M_X11_begins.1 M_X11_begins.1 ∈ lw_tbl := (List.mem_append_left _ (by decide +kernel))
theorem kk_X11_red : Cond.code M_X11_red.1 M_X11_red.2.1 M_X11_red.2.2.1 M_X11_red.2.2.2 ∈ lw_tbl := (List.mem_append_right _ (List.mem_of_getElem? (i := 996) (by decide +kernel)))
theorem ki_X11_red : Cond.instanceMethod M_X11_red.1 ∈ lw_tbl := (List.mem_append_right _ (List.mem_of_getElem? (i := 995) (by decide +kernel)))
theorem kl_X11_red : Cond.selects M_X11_red.1.cls M_X11_red.1 M_X11_red.1 ∈ lw_tbl := (List.mem_append_left _ (by decide +kernel))
theorem kk_X11_blue : Cond.code M_X11_blue.1 M_X11_blue.2.1 M_X11_blue.2.2.1 M_X11_blue.2.2.2 ∈ lw_tbl := (List.mem_append_right _ (List.mem_of_getElem? (i := 1004) (by decide +kernel)))
theorem ki_X11_blue : Cond.instanceMethod M_X11_blue.1 ∈ lw_tbl := (List.mem_append_right _ (List.mem_of_getElem? (i := 1003) (by decide +kernel)))
theorem kl_X11_blue : Cond.selects M_X11_blue.1.cls M_X11_blue.1 M_X11_blue.1 ∈ lw_tbl := (List.mem_append_left _ (by decide +kernel))
theorem kk_X11_lentAll : Cond.code M_X11_lentAll.1 M_X11_lentAll.2.1 M_X11_lentAll.2.2.1 M_X11_lentAll.2.2.2 ∈ lw_tbl := (List.mem_append_right _ (List.mem_of_getElem? (i := 1012) (by decide +kernel)))
theorem ki_X11_lentAll : Cond.instanceMethod M_X11_lentAll.1 ∈ lw_tbl := (List.mem_append_right _ (List.mem_of_getElem? (i := 1011) (by decide +kernel)))
theorem kl_X11_lentAll : Cond.selects M_X11_lentAll.1.cls M_X11_lentAll.1 M_X11_lentAll.1 ∈ lw_tbl := (List.mem_append_left _ (by decide +kernel))
theorem kk_X11_all : Cond.code M_X11_all.1 M_X11_all.2.1 M_X11_all.2.2.1 M_X11_all.2.2.2 ∈ lw_tbl := (List.mem_append_right _ (List.mem_of_getElem? (i := 1008) (by decide +kernel)))
theorem ki_X11_all : Cond.instanceMethod M_X11_all.1 ∈ lw_tbl := (List.mem_append_right _ (List.mem_of_getElem? (i := 1007) (by decide +kernel)))
theorem kl_X11_all : Cond.selects M_X11_all.1.cls M_X11_all.1 M_X11_all.1 ∈ lw_tbl := (List.mem_append_left _ (by decide +kernel))
theorem kk_X11_worth : Cond.code M_X11_worth.1 M_X11_worth.2.1 M_X11_worth.2.2.1 M_X11_worth.2.2.2 ∈ lw_tbl := (List.mem_append_right _ (List.mem_of_getElem? (i := 1016) (by decide +kernel)))
theorem ki_X11_worth : Cond.instanceMethod M_X11_worth.1 ∈ lw_tbl := (List.mem_append_right _ (List.mem_of_getElem? (i := 1015) (by decide +kernel)))
theorem kl_X11_worth : Cond.selects M_X11_worth.1.cls M_X11_worth.1 M_X11_worth.1 ∈ lw_tbl := (List.mem_append_left _ (by decide +kernel))
theorem kk_X11_asked : Cond.code M_X11_asked.1 M_X11_asked.2.1 M_X11_asked.2.2.1 M_X11_asked.2.2.2 ∈ lw_tbl := (List.mem_append_right _ (List.mem_of_getElem? (i := 992) (by decide +kernel)))
theorem ki_X11_asked : Cond.instanceMethod M_X11_asked.1 ∈ lw_tbl := (List.mem_append_right _ (List.mem_of_getElem? (i := 991) (by decide +kernel)))
theorem kl_X11_asked : Cond.selects M_X11_asked.1.cls M_X11_asked.1 M_X11_asked.1 ∈ lw_tbl := (List.mem_append_left _ (by decide +kernel))
theorem kk_X11_ask : Cond.code M_X11_ask.1 M_X11_ask.2.1 M_X11_ask.2.2.1 M_X11_ask.2.2.2 ∈ lw_tbl := (List.mem_append_right _ (List.mem_of_getElem? (i := 988) (by decide +kernel)))
theorem ki_X11_ask : Cond.instanceMethod M_X11_ask.1 ∈ lw_tbl := (List.mem_append_right _ (List.mem_of_getElem? (i := 986) (by decide +kernel)))
theorem kl_X11_ask : Cond.selects M_X11_ask.1.cls M_X11_ask.1 M_X11_ask.1 ∈ lw_tbl := (List.mem_append_right _ (List.mem_of_getElem? (i := 987) (by decide +kernel)))
theorem kk_X11_trace : Cond.code M_X11_trace.1 M_X11_trace.2.1 M_X11_trace.2.2.1 M_X11_trace.2.2.2 ∈ lw_tbl := (List.mem_append_right _ (List.mem_of_getElem? (i := 1020) (by decide +kernel)))
theorem ki_X11_trace : Cond.instanceMethod M_X11_trace.1 ∈ lw_tbl := (List.mem_append_right _ (List.mem_of_getElem? (i := 1018) (by decide +kernel)))
theorem kl_X11_trace : Cond.selects M_X11_trace.1.cls M_X11_trace.1 M_X11_trace.1 ∈ lw_tbl := (List.mem_append_right _ (List.mem_of_getElem? (i := 1019) (by decide +kernel)))
theorem kk_X11_undo : Cond.code M_X11_undo.1 M_X11_undo.2.1 M_X11_undo.2.2.1 M_X11_undo.2.2.2 ∈ lw_tbl := (List.mem_append_right _ (List.mem_of_getElem? (i := 1024) (by decide +kernel)))
theorem ki_X11_undo : Cond.instanceMethod M_X11_undo.1 ∈ lw_tbl := (List.mem_append_right _ (List.mem_of_getElem? (i := 1022) (by decide +kernel)))
theorem kl_X11_undo : Cond.selects M_X11_undo.1.cls M_X11_undo.1 M_X11_undo.1 ∈ lw_tbl := (List.mem_append_right _ (List.mem_of_getElem? (i := 1023) (by decide +kernel)))
theorem kk_X11_divisor : Cond.code M_X11_divisor.1 M_X11_divisor.2.1 M_X11_divisor.2.2.1 M_X11_divisor.2.2.2 ∈ lw_tbl := (List.mem_append_right _ (List.mem_of_getElem? (i := 972) (by decide +kernel)))
theorem kt_X11_divisor : Cond.static M_X11_divisor.1 ∈ lw_tbl := (List.mem_append_right _ (List.mem_of_getElem? (i := 971) (by decide +kernel)))
theorem kk_X11_line : Cond.code M_X11_line.1 M_X11_line.2.1 M_X11_line.2.2.1 M_X11_line.2.2.2 ∈ lw_tbl := (List.mem_append_right _ (List.mem_of_getElem? (i := 1029) (by decide +kernel)))
theorem ki_X11_line : Cond.instanceMethod M_X11_line.1 ∈ lw_tbl := (List.mem_append_right _ (List.mem_of_getElem? (i := 1027) (by decide +kernel)))
theorem kl_X11_line : Cond.selects M_X11_line.1.cls M_X11_line.1 M_X11_line.1 ∈ lw_tbl := (List.mem_append_right _ (List.mem_of_getElem? (i := 1028) (by decide +kernel)))
theorem kk_X11_isApart : Cond.code M_X11_isApart.1 M_X11_isApart.2.1 M_X11_isApart.2.2.1 M_X11_isApart.2.2.2 ∈ lw_tbl := (List.mem_append_right _ (List.mem_of_getElem? (i := 965) (by decide +kernel)))
theorem ki_X11_isApart : Cond.instanceMethod M_X11_isApart.1 ∈ lw_tbl := (List.mem_append_right _ (List.mem_of_getElem? (i := 964) (by decide +kernel)))
theorem kl_X11_isApart : Cond.selects M_X11_isApart.1.cls M_X11_isApart.1 M_X11_isApart.1 ∈ lw_tbl := (List.mem_append_left _ (by decide +kernel))
theorem kk_X11_look : Cond.code M_X11_look.1 M_X11_look.2.1 M_X11_look.2.2.1 M_X11_look.2.2.2 ∈ lw_tbl := (List.mem_append_right _ (List.mem_of_getElem? (i := 969) (by decide +kernel)))
theorem ki_X11_look : Cond.instanceMethod M_X11_look.1 ∈ lw_tbl := (List.mem_append_right _ (List.mem_of_getElem? (i := 968) (by decide +kernel)))
theorem kl_X11_look : Cond.selects M_X11_look.1.cls M_X11_look.1 M_X11_look.1 ∈ lw_tbl := (List.mem_append_left _ (by decide +kernel))
theorem kk_X11_at : Cond.code M_X11_at.1 M_X11_at.2.1 M_X11_at.2.2.1 M_X11_at.2.2.2 ∈ lw_tbl := (List.mem_append_right _ (List.mem_of_getElem? (i := 976) (by decide +kernel)))
theorem ki_X11_at : Cond.instanceMethod M_X11_at.1 ∈ lw_tbl := (List.mem_append_right _ (List.mem_of_getElem? (i := 975) (by decide +kernel)))
theorem kl_X11_at : Cond.selects M_X11_at.1.cls M_X11_at.1 M_X11_at.1 ∈ lw_tbl := (List.mem_append_left _ (by decide +kernel))
theorem kk_X11_lookAtLine : Cond.code M_X11_lookAtLine.1 M_X11_lookAtLine.2.1 M_X11_lookAtLine.2.2.1 M_X11_lookAtLine.2.2.2 ∈ lw_tbl := (List.mem_append_right _ (List.mem_of_getElem? (i := 1051) (by decide +kernel)))
theorem ki_X11_lookAtLine : Cond.instanceMethod M_X11_lookAtLine.1 ∈ lw_tbl := (List.mem_append_right _ (List.mem_of_getElem? (i := 1050) (by decide +kernel)))
theorem kl_X11_lookAtLine : Cond.selects M_X11_lookAtLine.1.cls M_X11_lookAtLine.1 M_X11_lookAtLine.1 ∈ lw_tbl := (List.mem_append_left _ (by decide +kernel))
theorem kk_X11_putLine : Cond.code M_X11_putLine.1 M_X11_putLine.2.1 M_X11_putLine.2.2.1 M_X11_putLine.2.2.2 ∈ lw_tbl := (List.mem_append_right _ (List.mem_of_getElem? (i := 1039) (by decide +kernel)))
theorem ki_X11_putLine : Cond.instanceMethod M_X11_putLine.1 ∈ lw_tbl := (List.mem_append_right _ (List.mem_of_getElem? (i := 1038) (by decide +kernel)))
theorem kl_X11_putLine : Cond.selects M_X11_putLine.1.cls M_X11_putLine.1 M_X11_putLine.1 ∈ lw_tbl := (List.mem_append_left _ (by decide +kernel))
theorem kk_X11_through : Cond.code M_X11_through.1 M_X11_through.2.1 M_X11_through.2.2.1 M_X11_through.2.2.2 ∈ lw_tbl := (List.mem_append_right _ (List.mem_of_getElem? (i := 1035) (by decide +kernel)))
theorem ki_X11_through : Cond.instanceMethod M_X11_through.1 ∈ lw_tbl := (List.mem_append_right _ (List.mem_of_getElem? (i := 1033) (by decide +kernel)))
theorem kl_X11_through : Cond.selects M_X11_through.1.cls M_X11_through.1 M_X11_through.1 ∈ lw_tbl := (List.mem_append_right _ (List.mem_of_getElem? (i := 1034) (by decide +kernel)))
theorem kk_X11_lineAt : Cond.code M_X11_lineAt.1 M_X11_lineAt.2.1 M_X11_lineAt.2.2.1 M_X11_lineAt.2.2.2 ∈ lw_tbl := (List.mem_append_right _ (List.mem_of_getElem? (i := 1043) (by decide +kernel)))
theorem ki_X11_lineAt : Cond.instanceMethod M_X11_lineAt.1 ∈ lw_tbl := (List.mem_append_right _ (List.mem_of_getElem? (i := 1041) (by decide +kernel)))
theorem kl_X11_lineAt : Cond.selects M_X11_lineAt.1.cls M_X11_lineAt.1 M_X11_lineAt.1 ∈ lw_tbl := (List.mem_append_right _ (List.mem_of_getElem? (i := 1042) (by decide +kernel)))
theorem kk_X11_sumOf : Cond.code M_X11_sumOf.1 M_X11_sumOf.2.1 M_X11_sumOf.2.2.1 M_X11_sumOf.2.2.2 ∈ lw_tbl := (List.mem_append_right _ (List.mem_of_getElem? (i := 1055) (by decide +kernel)))
theorem ki_X11_sumOf : Cond.instanceMethod M_X11_sumOf.1 ∈ lw_tbl := (List.mem_append_right _ (List.mem_of_getElem? (i := 1054) (by decide +kernel)))
theorem kl_X11_sumOf : Cond.selects M_X11_sumOf.1.cls M_X11_sumOf.1 M_X11_sumOf.1 ∈ lw_tbl := (List.mem_append_left _ (by decide +kernel))
theorem kk_X11_isHalved : Cond.code M_X11_isHalved.1 M_X11_isHalved.2.1 M_X11_isHalved.2.2.1 M_X11_isHalved.2.2.2 ∈ lw_tbl := (List.mem_append_right _ (List.mem_of_getElem? (i := 1063) (by decide +kernel)))
theorem ki_X11_isHalved : Cond.instanceMethod M_X11_isHalved.1 ∈ lw_tbl := (List.mem_append_right _ (List.mem_of_getElem? (i := 1062) (by decide +kernel)))
theorem kl_X11_isHalved : Cond.selects M_X11_isHalved.1.cls M_X11_isHalved.1 M_X11_isHalved.1 ∈ lw_tbl := (List.mem_append_left _ (by decide +kernel))
theorem kk_X11_side : Cond.code M_X11_side.1 M_X11_side.2.1 M_X11_side.2.2.1 M_X11_side.2.2.2 ∈ lw_tbl := (List.mem_append_right _ (List.mem_of_getElem? (i := 1047) (by decide +kernel)))
theorem ki_X11_side : Cond.instanceMethod M_X11_side.1 ∈ lw_tbl := (List.mem_append_right _ (List.mem_of_getElem? (i := 1045) (by decide +kernel)))
theorem kl_X11_side : Cond.selects M_X11_side.1.cls M_X11_side.1 M_X11_side.1 ∈ lw_tbl := (List.mem_append_right _ (List.mem_of_getElem? (i := 1046) (by decide +kernel)))
theorem kk_X11_halves : Cond.code M_X11_halves.1 M_X11_halves.2.1 M_X11_halves.2.2.1 M_X11_halves.2.2.2 ∈ lw_tbl := (List.mem_append_right _ (List.mem_of_getElem? (i := 1059) (by decide +kernel)))
theorem ki_X11_halves : Cond.instanceMethod M_X11_halves.1 ∈ lw_tbl := (List.mem_append_right _ (List.mem_of_getElem? (i := 1057) (by decide +kernel)))
theorem kl_X11_halves : Cond.selects M_X11_halves.1.cls M_X11_halves.1 M_X11_halves.1 ∈ lw_tbl := (List.mem_append_right _ (List.mem_of_getElem? (i := 1058) (by decide +kernel)))
theorem kk_X11_isFirst : Cond.code M_X11_isFirst.1 M_X11_isFirst.2.1 M_X11_isFirst.2.2.1 M_X11_isFirst.2.2.2 ∈ lw_tbl := (List.mem_append_right _ (List.mem_of_getElem? (i := 1075) (by decide +kernel)))
theorem ki_X11_isFirst : Cond.instanceMethod M_X11_isFirst.1 ∈ lw_tbl := (List.mem_append_right _ (List.mem_of_getElem? (i := 1074) (by decide +kernel)))
theorem kl_X11_isFirst : Cond.selects M_X11_isFirst.1.cls M_X11_isFirst.1 M_X11_isFirst.1 ∈ lw_tbl := (List.mem_append_left _ (by decide +kernel))
theorem kk_X11_firstThere : Cond.code M_X11_firstThere.1 M_X11_firstThere.2.1 M_X11_firstThere.2.2.1 M_X11_firstThere.2.2.2 ∈ lw_tbl := (List.mem_append_right _ (List.mem_of_getElem? (i := 1079) (by decide +kernel)))
theorem ki_X11_firstThere : Cond.instanceMethod M_X11_firstThere.1 ∈ lw_tbl := (List.mem_append_right _ (List.mem_of_getElem? (i := 1078) (by decide +kernel)))
theorem kl_X11_firstThere : Cond.selects M_X11_firstThere.1.cls M_X11_firstThere.1 M_X11_firstThere.1 ∈ lw_tbl := (List.mem_append_left _ (by decide +kernel))
theorem kk_X11_findFurrow : Cond.code M_X11_findFurrow.1 M_X11_findFurrow.2.1 M_X11_findFurrow.2.2.1 M_X11_findFurrow.2.2.2 ∈ lw_tbl := (List.mem_append_right _ (List.mem_of_getElem? (i := 1071) (by decide +kernel)))
theorem ki_X11_findFurrow : Cond.instanceMethod M_X11_findFurrow.1 ∈ lw_tbl := (List.mem_append_right _ (List.mem_of_getElem? (i := 1070) (by decide +kernel)))
theorem kl_X11_findFurrow : Cond.selects M_X11_findFurrow.1.cls M_X11_findFurrow.1 M_X11_findFurrow.1 ∈ lw_tbl := (List.mem_append_left _ (by decide +kernel))
theorem kk_X11_furrow : Cond.code M_X11_furrow.1 M_X11_furrow.2.1 M_X11_furrow.2.2.1 M_X11_furrow.2.2.2 ∈ lw_tbl := (List.mem_append_right _ (List.mem_of_getElem? (i := 1067) (by decide +kernel)))
theorem ki_X11_furrow : Cond.instanceMethod M_X11_furrow.1 ∈ lw_tbl := (List.mem_append_right _ (List.mem_of_getElem? (i := 1065) (by decide +kernel)))
theorem kl_X11_furrow : Cond.selects M_X11_furrow.1.cls M_X11_furrow.1 M_X11_furrow.1 ∈ lw_tbl := (List.mem_append_right _ (List.mem_of_getElem? (i := 1066) (by decide +kernel)))
theorem kk_X11_furrows : Cond.code M_X11_furrows.1 M_X11_furrows.2.1 M_X11_furrows.2.2.1 M_X11_furrows.2.2.2 ∈ lw_tbl := (List.mem_append_right _ (List.mem_of_getElem? (i := 1083) (by decide +kernel)))
theorem ki_X11_furrows : Cond.instanceMethod M_X11_furrows.1 ∈ lw_tbl := (List.mem_append_right _ (List.mem_of_getElem? (i := 1081) (by decide +kernel)))
theorem kl_X11_furrows : Cond.selects M_X11_furrows.1.cls M_X11_furrows.1 M_X11_furrows.1 ∈ lw_tbl := (List.mem_append_right _ (List.mem_of_getElem? (i := 1082) (by decide +kernel)))
theorem kk_X11_sumBeyond : Cond.code M_X11_sumBeyond.1 M_X11_sumBeyond.2.1 M_X11_sumBeyond.2.2.1 M_X11_sumBeyond.2.2.2 ∈ lw_tbl := (List.mem_append_right _ (List.mem_of_getElem? (i := 1097) (by decide +kernel)))
theorem ki_X11_sumBeyond : Cond.instanceMethod M_X11_sumBeyond.1 ∈ lw_tbl := (List.mem_append_right _ (List.mem_of_getElem? (i := 1096) (by decide +kernel)))
theorem kl_X11_sumBeyond : Cond.selects M_X11_sumBeyond.1.cls M_X11_sumBeyond.1 M_X11_sumBeyond.1 ∈ lw_tbl := (List.mem_append_left _ (by decide +kernel))
theorem kk_X11_depthOf : Cond.code M_X11_depthOf.1 M_X11_depthOf.2.1 M_X11_depthOf.2.2.1 M_X11_depthOf.2.2.2 ∈ lw_tbl := (List.mem_append_right _ (List.mem_of_getElem? (i := 1092) (by decide +kernel)))
theorem ki_X11_depthOf : Cond.instanceMethod M_X11_depthOf.1 ∈ lw_tbl := (List.mem_append_right _ (List.mem_of_getElem? (i := 1091) (by decide +kernel)))
theorem kl_X11_depthOf : Cond.selects M_X11_depthOf.1.cls M_X11_depthOf.1 M_X11_depthOf.1 ∈ lw_tbl := (List.mem_append_left _ (by decide +kernel))
theorem kk_X11_depth : Cond.code M_X11_depth.1 M_X11_depth.2.1 M_X11_depth.2.2.1 M_X11_depth.2.2.2 ∈ lw_tbl := (List.mem_append_right _ (List.mem_of_getElem? (i := 1087) (by decide +kernel)))
theorem ki_X11_depth : Cond.instanceMethod M_X11_depth.1 ∈ lw_tbl := (List.mem_append_right _ (List.mem_of_getElem? (i := 1085) (by decide +kernel)))
theorem kl_X11_depth : Cond.selects M_X11_depth.1.cls M_X11_depth.1 M_X11_depth.1 ∈ lw_tbl := (List.mem_append_right _ (List.mem_of_getElem? (i := 1086) (by decide +kernel)))
theorem kk_X11_offer : Cond.code M_X11_offer.1 M_X11_offer.2.1 M_X11_offer.2.2.1 M_X11_offer.2.2.2 ∈ lw_tbl := (List.mem_append_right _ (List.mem_of_getElem? (i := 1107) (by decide +kernel)))
theorem ki_X11_offer : Cond.instanceMethod M_X11_offer.1 ∈ lw_tbl := (List.mem_append_right _ (List.mem_of_getElem? (i := 1106) (by decide +kernel)))
theorem kl_X11_offer : Cond.selects M_X11_offer.1.cls M_X11_offer.1 M_X11_offer.1 ∈ lw_tbl := (List.mem_append_left _ (by decide +kernel))
theorem kk_X11_deepest : Cond.code M_X11_deepest.1 M_X11_deepest.2.1 M_X11_deepest.2.2.1 M_X11_deepest.2.2.2 ∈ lw_tbl := (List.mem_append_right _ (List.mem_of_getElem? (i := 1101) (by decide +kernel)))
theorem ki_X11_deepest : Cond.instanceMethod M_X11_deepest.1 ∈ lw_tbl := (List.mem_append_right _ (List.mem_of_getElem? (i := 1099) (by decide +kernel)))
theorem kl_X11_deepest : Cond.selects M_X11_deepest.1.cls M_X11_deepest.1 M_X11_deepest.1 ∈ lw_tbl := (List.mem_append_right _ (List.mem_of_getElem? (i := 1100) (by decide +kernel)))
theorem kk_X11_isOnEdge : Cond.code M_X11_isOnEdge.1 M_X11_isOnEdge.2.1 M_X11_isOnEdge.2.2.1 M_X11_isOnEdge.2.2.2 ∈ lw_tbl := (List.mem_append_right _ (List.mem_of_getElem? (i := 961) (by decide +kernel)))
theorem ki_X11_isOnEdge : Cond.instanceMethod M_X11_isOnEdge.1 ∈ lw_tbl := (List.mem_append_right _ (List.mem_of_getElem? (i := 960) (by decide +kernel)))
theorem kl_X11_isOnEdge : Cond.selects M_X11_isOnEdge.1.cls M_X11_isOnEdge.1 M_X11_isOnEdge.1 ∈ lw_tbl := (List.mem_append_left _ (by decide +kernel))
theorem kk_X11_findLayers : Cond.code M_X11_findLayers.1 M_X11_findLayers.2.1 M_X11_findLayers.2.2.1 M_X11_findLayers.2.2.2 ∈ lw_tbl := (List.mem_append_right _ (List.mem_of_getElem? (i := 957) (by decide +kernel)))
theorem ki_X11_findLayers : Cond.instanceMethod M_X11_findLayers.1 ∈ lw_tbl := (List.mem_append_right _ (List.mem_of_getElem? (i := 956) (by decide +kernel)))
theorem kl_X11_findLayers : Cond.selects M_X11_findLayers.1.cls M_X11_findLayers.1 M_X11_findLayers.1 ∈ lw_tbl := (List.mem_append_left _ (by decide +kernel))
theorem kk_X11_layer : Cond.code M_X11_layer.1 M_X11_layer.2.1 M_X11_layer.2.2.1 M_X11_layer.2.2.2 ∈ lw_tbl := (List.mem_append_right _ (List.mem_of_getElem? (i := 1111) (by decide +kernel)))
theorem ki_X11_layer : Cond.instanceMethod M_X11_layer.1 ∈ lw_tbl := (List.mem_append_right _ (List.mem_of_getElem? (i := 1109) (by decide +kernel)))
theorem kl_X11_layer : Cond.selects M_X11_layer.1.cls M_X11_layer.1 M_X11_layer.1 ∈ lw_tbl := (List.mem_append_right _ (List.mem_of_getElem? (i := 1110) (by decide +kernel)))
theorem kk_X11_most : Cond.code M_X11_most.1 M_X11_most.2.1 M_X11_most.2.2.1 M_X11_most.2.2.2 ∈ lw_tbl := (List.mem_append_right _ (List.mem_of_getElem? (i := 1115) (by decide +kernel)))
theorem ki_X11_most : Cond.instanceMethod M_X11_most.1 ∈ lw_tbl := (List.mem_append_right _ (List.mem_of_getElem? (i := 1113) (by decide +kernel)))
theorem kl_X11_most : Cond.selects M_X11_most.1.cls M_X11_most.1 M_X11_most.1 ∈ lw_tbl := (List.mem_append_right _ (List.mem_of_getElem? (i := 1114) (by decide +kernel)))
theorem kk_X11_offerGap : Cond.code M_X11_offerGap.1 M_X11_offerGap.2.1 M_X11_offerGap.2.2.1 M_X11_offerGap.2.2.2 ∈ lw_tbl := (List.mem_append_right _ (List.mem_of_getElem? (i := 1123) (by decide +kernel)))
theorem ki_X11_offerGap : Cond.instanceMethod M_X11_offerGap.1 ∈ lw_tbl := (List.mem_append_right _ (List.mem_of_getElem? (i := 1122) (by decide +kernel)))
theorem kl_X11_offerGap : Cond.selects M_X11_offerGap.1.cls M_X11_offerGap.1 M_X11_offerGap.1 ∈ lw_tbl := (List.mem_append_left _ (by decide +kernel))
theorem kk_X11_widest : Cond.code M_X11_widest.1 M_X11_widest.2.1 M_X11_widest.2.2.1 M_X11_widest.2.2.2 ∈ lw_tbl := (List.mem_append_right _ (List.mem_of_getElem? (i := 1119) (by decide +kernel)))
theorem ki_X11_widest : Cond.instanceMethod M_X11_widest.1 ∈ lw_tbl := (List.mem_append_right _ (List.mem_of_getElem? (i := 1117) (by decide +kernel)))
theorem kl_X11_widest : Cond.selects M_X11_widest.1.cls M_X11_widest.1 M_X11_widest.1 ∈ lw_tbl := (List.mem_append_right _ (List.mem_of_getElem? (i := 1118) (by decide +kernel)))
theorem kk_X11_count : Cond.code M_X11_count.1 M_X11_count.2.1 M_X11_count.2.2.1 M_X11_count.2.2.2 ∈ lw_tbl := (List.mem_append_right _ (List.mem_of_getElem? (i := 1127) (by decide +kernel)))
theorem ki_X11_count : Cond.instanceMethod M_X11_count.1 ∈ lw_tbl := (List.mem_append_right _ (List.mem_of_getElem? (i := 1125) (by decide +kernel)))
theorem kl_X11_count : Cond.selects M_X11_count.1.cls M_X11_count.1 M_X11_count.1 ∈ lw_tbl := (List.mem_append_right _ (List.mem_of_getElem? (i := 1126) (by decide +kernel)))
theorem kk_X11_status : Cond.code M_X11_status.1 M_X11_status.2.1 M_X11_status.2.2.1 M_X11_status.2.2.2 ∈ lw_tbl := (List.mem_append_right _ (List.mem_of_getElem? (i := 1131) (by decide +kernel)))
theorem ki_X11_status : Cond.instanceMethod M_X11_status.1 ∈ lw_tbl := (List.mem_append_right _ (List.mem_of_getElem? (i := 1129) (by decide +kernel)))
theorem kl_X11_status : Cond.selects M_X11_status.1.cls M_X11_status.1 M_X11_status.1 ∈ lw_tbl := (List.mem_append_right _ (List.mem_of_getElem? (i := 1130) (by decide +kernel)))
theorem kn_X0 : Cond.initialized RX0 ∈ lw_tbl := (List.mem_append_right _ (List.mem_of_getElem? (i := 2) (by decide +kernel)))
theorem kn_X1 : Cond.initialized RX1 ∈ lw_tbl := (List.mem_append_right _ (List.mem_of_getElem? (i := 4) (by decide +kernel)))
theorem kn_X2 : Cond.initialized RX2 ∈ lw_tbl := (List.mem_append_right _ (List.mem_of_getElem? (i := 10) (by decide +kernel)))
theorem kn_X3 : Cond.initialized RX3 ∈ lw_tbl := (List.mem_append_right _ (List.mem_of_getElem? (i := 9) (by decide +kernel)))
theorem kn_X4 : Cond.initialized RX4 ∈ lw_tbl := (List.mem_append_right _ (List.mem_of_getElem? (i := 6) (by decide +kernel)))
theorem kn_X5 : Cond.initialized RX5 ∈ lw_tbl := (List.mem_append_right _ (List.mem_of_getElem? (i := 8) (by decide +kernel)))
theorem kn_X6 : Cond.initialized RX6 ∈ lw_tbl := (List.mem_append_right _ (List.mem_of_getElem? (i := 3) (by decide +kernel)))
theorem kn_X7 : Cond.initialized RX7 ∈ lw_tbl := (List.mem_append_right _ (List.mem_of_getElem? (i := 7) (by decide +kernel)))
theorem kn_X8 : Cond.initialized RX8 ∈ lw_tbl := (List.mem_append_right _ (List.mem_of_getElem? (i := 11) (by decide +kernel)))
theorem kn_X9 : Cond.initialized RX9 ∈ lw_tbl := (List.mem_append_right _ (List.mem_of_getElem? (i := 5) (by decide +kernel)))
theorem kn_X10 : Cond.initialized RX10 ∈ lw_tbl := (List.mem_append_right _ (List.mem_of_getElem? (i := 1) (by decide +kernel)))
theorem kn_X11 : Cond.initialized RX11 ∈ lw_tbl := (List.mem_append_right _ (List.mem_of_getElem? (i := 12) (by decide +kernel)))
theorem kv_L_13 : CV "FurrowFieldLaw" 13 M_X10_bed 10 3 := ⟨kk_X10_bed, (List.mem_append_right _ (List.mem_of_getElem? (i := 357) (by decide +kernel))), ki_X10_bed, kl_X10_bed, kn_X10, ⟨_, rfl, rfl⟩, by decide +kernel, by decide +kernel, by decide +kernel, by decide +kernel, by decide⟩
theorem ks_X10_84 : CS RX10 84 M_X10_isBed 1 := ⟨kk_X10_isBed, kt_X10_isBed, kn_X10, by decide +kernel, by decide +kernel, by decide +kernel, by decide +kernel, by decide, (Or.inl (List.mem_append_right _ (List.mem_of_getElem? (i := 361) (by decide +kernel))))⟩
theorem ks_X10_88 : CS RX10 88 M_X10_isBelow 2 := ⟨kk_X10_isBelow, kt_X10_isBelow, kn_X10, by decide +kernel, by decide +kernel, by decide +kernel, by decide +kernel, by decide, (Or.inl (List.mem_append_right _ (List.mem_of_getElem? (i := 364) (by decide +kernel))))⟩
theorem kv_X10_93 : CV RX10 93 M_X10_found 10 1 := ⟨kk_X10_found, (List.mem_append_right _ (List.mem_of_getElem? (i := 368) (by decide +kernel))), ki_X10_found, kl_X10_found, kn_X10, ⟨_, rfl, rfl⟩, by decide +kernel, by decide +kernel, by decide +kernel, by decide +kernel, by decide⟩
theorem kv_X10_97 : CV RX10 97 M_X0_lay 0 2 := ⟨kk_X0_lay, (List.mem_append_right _ (List.mem_of_getElem? (i := 373) (by decide +kernel))), ki_X0_lay, kl_X0_lay, kn_X0, ⟨_, rfl, rfl⟩, by decide +kernel, by decide +kernel, by decide +kernel, by decide +kernel, by decide⟩
theorem kv_X10_101 : CV RX10 101 M_X10_done 10 1 := ⟨kk_X10_done, (List.mem_append_right _ (List.mem_of_getElem? (i := 377) (by decide +kernel))), ki_X10_done, kl_X10_done, kn_X10, ⟨_, rfl, rfl⟩, by decide +kernel, by decide +kernel, by decide +kernel, by decide +kernel, by decide⟩
theorem kv_L_20 : CV "FurrowFieldLaw" 20 M_X10_set 10 3 := ⟨kk_X10_set, (List.mem_append_right _ (List.mem_of_getElem? (i := 381) (by decide +kernel))), ki_X10_set, kl_X10_set, kn_X10, ⟨_, rfl, rfl⟩, by decide +kernel, by decide +kernel, by decide +kernel, by decide +kernel, by decide⟩
theorem kv_X10_110 : CV RX10 110 M_X0_has 0 2 := ⟨kk_X0_has, (List.mem_append_right _ (List.mem_of_getElem? (i := 386) (by decide +kernel))), ki_X0_has, kl_X0_has, kn_X0, ⟨_, rfl, rfl⟩, by decide +kernel, by decide +kernel, by decide +kernel, by decide +kernel, by decide⟩
theorem kv_X10_117 : CV RX10 117 M_X0_narrowed 0 1 := ⟨kk_X0_narrowed, (List.mem_append_right _ (List.mem_of_getElem? (i := 390) (by decide +kernel))), ki_X0_narrowed, kl_X0_narrowed, kn_X0, ⟨_, rfl, rfl⟩, by decide +kernel, by decide +kernel, by decide +kernel, by decide +kernel, by decide⟩
theorem kv_L_25 : CV "FurrowFieldLaw" 25 M_X10_drop 10 1 := ⟨kk_X10_drop, (List.mem_append_right _ (List.mem_of_getElem? (i := 394) (by decide +kernel))), ki_X10_drop, kl_X10_drop, kn_X10, ⟨_, rfl, rfl⟩, by decide +kernel, by decide +kernel, by decide +kernel, by decide +kernel, by decide⟩
theorem kv_L_30 : CV "FurrowFieldLaw" 30 M_X10_copy 10 5 := ⟨kk_X10_copy, (List.mem_append_right _ (List.mem_of_getElem? (i := 398) (by decide +kernel))), ki_X10_copy, kl_X10_copy, kn_X10, ⟨_, rfl, rfl⟩, by decide +kernel, by decide +kernel, by decide +kernel, by decide +kernel, by decide⟩
theorem kv_L_35 : CV "FurrowFieldLaw" 35 M_X10_plant 10 3 := ⟨kk_X10_plant, (List.mem_append_right _ (List.mem_of_getElem? (i := 405) (by decide +kernel))), ki_X10_plant, kl_X10_plant, kn_X10, ⟨_, rfl, rfl⟩, by decide +kernel, by decide +kernel, by decide +kernel, by decide +kernel, by decide⟩
theorem ks_X10_141 : CS RX10 141 M_X10_isInField 1 := ⟨kk_X10_isInField, kt_X10_isInField, kn_X10, by decide +kernel, by decide +kernel, by decide +kernel, by decide +kernel, by decide, (Or.inl (List.mem_append_right _ (List.mem_of_getElem? (i := 410) (by decide +kernel))))⟩
theorem ks_X10_225 : CS RX10 225 M_X10_isWithin 2 := ⟨kk_X10_isWithin, kt_X10_isWithin, kn_X10, by decide +kernel, by decide +kernel, by decide +kernel, by decide +kernel, by decide, (Or.inl (List.mem_append_right _ (List.mem_of_getElem? (i := 414) (by decide +kernel))))⟩
theorem kv_X10_145 : CV RX10 145 M_X10_keepForUndo 10 1 := ⟨kk_X10_keepForUndo, (List.mem_append_right _ (List.mem_of_getElem? (i := 417) (by decide +kernel))), ki_X10_keepForUndo, kl_X10_keepForUndo, kn_X10, ⟨_, rfl, rfl⟩, by decide +kernel, by decide +kernel, by decide +kernel, by decide +kernel, by decide⟩
theorem kv_X10_218 : CV RX10 218 M_X6_become 6 1 := ⟨kk_X6_become, (List.mem_append_right _ (List.mem_of_getElem? (i := 421) (by decide +kernel))), ki_X6_become, kl_X6_become, kn_X6, ⟨_, rfl, rfl⟩, by decide +kernel, by decide +kernel, by decide +kernel, by decide +kernel, by decide⟩
theorem kv_X10_148 : CV RX10 148 M_X6_begin 6 4 := ⟨kk_X6_begin, (List.mem_append_right _ (List.mem_of_getElem? (i := 425) (by decide +kernel))), ki_X6_begin, kl_X6_begin, kn_X6, ⟨_, rfl, rfl⟩, by decide +kernel, by decide +kernel, by decide +kernel, by decide +kernel, by decide⟩
theorem kv_X6_25 : CV RX6 25 M_X6_paint 6 2 := ⟨kk_X6_paint, (List.mem_append_right _ (List.mem_of_getElem? (i := 429) (by decide +kernel))), ki_X6_paint, kl_X6_paint, kn_X6, ⟨_, rfl, rfl⟩, by decide +kernel, by decide +kernel, by decide +kernel, by decide +kernel, by decide⟩
theorem kv_X6_32 : CV RX6 32 M_X6_begun 6 3 := ⟨kk_X6_begun, (List.mem_append_right _ (List.mem_of_getElem? (i := 433) (by decide +kernel))), ki_X6_begun, kl_X6_begun, kn_X6, ⟨_, rfl, rfl⟩, by decide +kernel, by decide +kernel, by decide +kernel, by decide +kernel, by decide⟩
theorem ks_X6_45 : CS RX6 45 M_X10_isBelow 2 := ⟨kk_X10_isBelow, kt_X10_isBelow, kn_X10, by decide +kernel, by decide +kernel, by decide +kernel, by decide +kernel, by decide, (Or.inr ⟨"FurrowField", (List.mem_append_right _ (List.mem_of_getElem? (i := 439) (by decide +kernel)))⟩)⟩
theorem kv_X6_56 : CV RX6 56 M_X6_gives 6 3 := ⟨kk_X6_gives, (List.mem_append_right _ (List.mem_of_getElem? (i := 440) (by decide +kernel))), ki_X6_gives, kl_X6_gives, kn_X6, ⟨_, rfl, rfl⟩, by decide +kernel, by decide +kernel, by decide +kernel, by decide +kernel, by decide⟩
theorem kv_X6_59 : CV RX6 59 M_X9_leave 9 1 := ⟨kk_X9_leave, (List.mem_append_right _ (List.mem_of_getElem? (i := 444) (by decide +kernel))), ki_X9_leave, kl_X9_leave, kn_X9, ⟨_, rfl, rfl⟩, by decide +kernel, by decide +kernel, by decide +kernel, by decide +kernel, by decide⟩
theorem kv_X10_152 : CV RX10 152 M_X10_forget 10 0 := ⟨kk_X10_forget, (List.mem_append_right _ (List.mem_of_getElem? (i := 451) (by decide +kernel))), ki_X10_forget, kl_X10_forget, kn_X10, ⟨_, rfl, rfl⟩, by decide +kernel, by decide +kernel, by decide +kernel, by decide +kernel, by decide⟩
theorem kv_L_39 : CV "FurrowFieldLaw" 39 M_X10_move 10 3 := ⟨kk_X10_move, (List.mem_append_right _ (List.mem_of_getElem? (i := 455) (by decide +kernel))), ki_X10_move, kl_X10_move, kn_X10, ⟨_, rfl, rfl⟩, by decide +kernel, by decide +kernel, by decide +kernel, by decide +kernel, by decide⟩
theorem kv_X10_155 : CV RX10 155 M_X10_isGiven 10 1 := ⟨kk_X10_isGiven, (List.mem_append_right _ (List.mem_of_getElem? (i := 459) (by decide +kernel))), ki_X10_isGiven, kl_X10_isGiven, kn_X10, ⟨_, rfl, rfl⟩, by decide +kernel, by decide +kernel, by decide +kernel, by decide +kernel, by decide⟩
theorem kv_L_43 : CV "FurrowFieldLaw" 43 M_X10_away 10 1 := ⟨kk_X10_away, (List.mem_append_right _ (List.mem_of_getElem? (i := 463) (by decide +kernel))), ki_X10_away, kl_X10_away, kn_X10, ⟨_, rfl, rfl⟩, by decide +kernel, by decide +kernel, by decide +kernel, by decide +kernel, by decide⟩
theorem kv_X10_165 : CV RX10 165 M_X10_gathered 10 0 := ⟨kk_X10_gathered, (List.mem_append_right _ (List.mem_of_getElem? (i := 467) (by decide +kernel))), ki_X10_gathered, kl_X10_gathered, kn_X10, ⟨_, rfl, rfl⟩, by decide +kernel, by decide +kernel, by decide +kernel, by decide +kernel, by decide⟩
theorem kv_X10_317 : CV RX10 317 M_X7_gather 7 2 := ⟨kk_X7_gather, (List.mem_append_right _ (List.mem_of_getElem? (i := 471) (by decide +kernel))), ki_X7_gather, kl_X7_gather, kn_X7, ⟨_, rfl, rfl⟩, by decide +kernel, by decide +kernel, by decide +kernel, by decide +kernel, by decide⟩
theorem kv_X7_40 : CV RX7 40 M_X7_add 7 2 := ⟨kk_X7_add, (List.mem_append_right _ (List.mem_of_getElem? (i := 475) (by decide +kernel))), ki_X7_add, kl_X7_add, kn_X7, ⟨_, rfl, rfl⟩, by decide +kernel, by decide +kernel, by decide +kernel, by decide +kernel, by decide⟩
theorem kv_X10_178 : CV RX10 178 M_X6_paint 6 2 := ⟨kk_X6_paint, (List.mem_append_right _ (List.mem_of_getElem? (i := 483) (by decide +kernel))), ki_X6_paint, kl_X6_paint, kn_X6, ⟨_, rfl, rfl⟩, by decide +kernel, by decide +kernel, by decide +kernel, by decide +kernel, by decide⟩
theorem kv_L_52 : CV "FurrowFieldLaw" 52 M_X10_told 10 2 := ⟨kk_X10_told, (List.mem_append_right _ (List.mem_of_getElem? (i := 484) (by decide +kernel))), ki_X10_told, kl_X10_told, kn_X10, ⟨_, rfl, rfl⟩, by decide +kernel, by decide +kernel, by decide +kernel, by decide +kernel, by decide⟩
theorem kv_X10_182 : CV RX10 182 M_X10_peeled 10 0 := ⟨kk_X10_peeled, (List.mem_append_right _ (List.mem_of_getElem? (i := 488) (by decide +kernel))), ki_X10_peeled, kl_X10_peeled, kn_X10, ⟨_, rfl, rfl⟩, by decide +kernel, by decide +kernel, by decide +kernel, by decide +kernel, by decide⟩
theorem kv_X10_324 : CV RX10 324 M_X3_peel 3 1 := ⟨kk_X3_peel, (List.mem_append_right _ (List.mem_of_getElem? (i := 492) (by decide +kernel))), ki_X3_peel, kl_X3_peel, kn_X3, ⟨_, rfl, rfl⟩, by decide +kernel, by decide +kernel, by decide +kernel, by decide +kernel, by decide⟩
theorem kv_X3_22 : CV RX3 22 M_X3_peelOne 3 2 := ⟨kk_X3_peelOne, (List.mem_append_right _ (List.mem_of_getElem? (i := 496) (by decide +kernel))), ki_X3_peelOne, kl_X3_peelOne, kn_X3, ⟨_, rfl, rfl⟩, by decide +kernel, by decide +kernel, by decide +kernel, by decide +kernel, by decide⟩
theorem kv_X3_30 : CV RX3 30 M_X3_isOnEdge 3 3 := ⟨kk_X3_isOnEdge, (List.mem_append_right _ (List.mem_of_getElem? (i := 500) (by decide +kernel))), ki_X3_isOnEdge, kl_X3_isOnEdge, kn_X3, ⟨_, rfl, rfl⟩, by decide +kernel, by decide +kernel, by decide +kernel, by decide +kernel, by decide⟩
theorem kv_X3_34 : CV RX3 34 M_X3_isIn 3 2 := ⟨kk_X3_isIn, (List.mem_append_right _ (List.mem_of_getElem? (i := 504) (by decide +kernel))), ki_X3_isIn, kl_X3_isIn, kn_X3, ⟨_, rfl, rfl⟩, by decide +kernel, by decide +kernel, by decide +kernel, by decide +kernel, by decide⟩
theorem kv_X3_38 : CV RX3 38 M_X7_isTogether 7 2 := ⟨kk_X7_isTogether, (List.mem_append_right _ (List.mem_of_getElem? (i := 508) (by decide +kernel))), ki_X7_isTogether, kl_X7_isTogether, kn_X7, ⟨_, rfl, rfl⟩, by decide +kernel, by decide +kernel, by decide +kernel, by decide +kernel, by decide⟩
theorem kv_X3_41 : CV RX3 41 M_X3_isOneSided 3 4 := ⟨kk_X3_isOneSided, (List.mem_append_right _ (List.mem_of_getElem? (i := 512) (by decide +kernel))), ki_X3_isOneSided, kl_X3_isOneSided, kn_X3, ⟨_, rfl, rfl⟩, by decide +kernel, by decide +kernel, by decide +kernel, by decide +kernel, by decide⟩
theorem kv_X3_45 : CV RX3 45 M_X7_turn 7 3 := ⟨kk_X7_turn, (List.mem_append_right _ (List.mem_of_getElem? (i := 516) (by decide +kernel))), ki_X7_turn, kl_X7_turn, kn_X7, ⟨_, rfl, rfl⟩, by decide +kernel, by decide +kernel, by decide +kernel, by decide +kernel, by decide⟩
theorem kv_X10_186 : CV RX10 186 M_X7_placeOf 7 1 := ⟨kk_X7_placeOf, (List.mem_append_right _ (List.mem_of_getElem? (i := 520) (by decide +kernel))), ki_X7_placeOf, kl_X7_placeOf, kn_X7, ⟨_, rfl, rfl⟩, by decide +kernel, by decide +kernel, by decide +kernel, by decide +kernel, by decide⟩
theorem kv_X10_189 : CV RX10 189 M_X3_layerOf 3 1 := ⟨kk_X3_layerOf, (List.mem_append_right _ (List.mem_of_getElem? (i := 524) (by decide +kernel))), ki_X3_layerOf, kl_X3_layerOf, kn_X3, ⟨_, rfl, rfl⟩, by decide +kernel, by decide +kernel, by decide +kernel, by decide +kernel, by decide⟩
theorem ks_X3_49 : CS RX3 49 M_X10_isBelow 2 := ⟨kk_X10_isBelow, kt_X10_isBelow, kn_X10, by decide +kernel, by decide +kernel, by decide +kernel, by decide +kernel, by decide, (Or.inr ⟨"FurrowField", (List.mem_append_right _ (List.mem_of_getElem? (i := 528) (by decide +kernel)))⟩)⟩
theorem kv_L_56 : CV "FurrowFieldLaw" 56 M_X10_is 10 2 := ⟨kk_X10_is, (List.mem_append_right _ (List.mem_of_getElem? (i := 529) (by decide +kernel))), ki_X10_is, kl_X10_is, kn_X10, ⟨_, rfl, rfl⟩, by decide +kernel, by decide +kernel, by decide +kernel, by decide +kernel, by decide⟩
theorem kv_X10_192 : CV RX10 192 M_X6_isOf 6 1 := ⟨kk_X6_isOf, (List.mem_append_right _ (List.mem_of_getElem? (i := 533) (by decide +kernel))), ki_X6_isOf, kl_X6_isOf, kn_X6, ⟨_, rfl, rfl⟩, by decide +kernel, by decide +kernel, by decide +kernel, by decide +kernel, by decide⟩
theorem kv_L_60 : CV "FurrowFieldLaw" 60 M_X10_ask 10 2 := ⟨kk_X10_ask, (List.mem_append_right _ (List.mem_of_getElem? (i := 539) (by decide +kernel))), ki_X10_ask, kl_X10_ask, kn_X10, ⟨_, rfl, rfl⟩, by decide +kernel, by decide +kernel, by decide +kernel, by decide +kernel, by decide⟩
theorem kv_X10_198 : CV RX10 198 M_X6_answer 6 2 := ⟨kk_X6_answer, (List.mem_append_right _ (List.mem_of_getElem? (i := 543) (by decide +kernel))), ki_X6_answer, kl_X6_answer, kn_X6, ⟨_, rfl, rfl⟩, by decide +kernel, by decide +kernel, by decide +kernel, by decide +kernel, by decide⟩
theorem kv_L_64 : CV "FurrowFieldLaw" 64 M_X10_trace 10 1 := ⟨kk_X10_trace, (List.mem_append_right _ (List.mem_of_getElem? (i := 547) (by decide +kernel))), ki_X10_trace, kl_X10_trace, kn_X10, ⟨_, rfl, rfl⟩, by decide +kernel, by decide +kernel, by decide +kernel, by decide +kernel, by decide⟩
theorem kv_L_68 : CV "FurrowFieldLaw" 68 M_X10_undo 10 0 := ⟨kk_X10_undo, (List.mem_append_right _ (List.mem_of_getElem? (i := 552) (by decide +kernel))), ki_X10_undo, kl_X10_undo, kn_X10, ⟨_, rfl, rfl⟩, by decide +kernel, by decide +kernel, by decide +kernel, by decide +kernel, by decide⟩
theorem kv_L_73 : CV "FurrowFieldLaw" 73 M_X10_line 10 3 := ⟨kk_X10_line, (List.mem_append_right _ (List.mem_of_getElem? (i := 557) (by decide +kernel))), ki_X10_line, kl_X10_line, kn_X10, ⟨_, rfl, rfl⟩, by decide +kernel, by decide +kernel, by decide +kernel, by decide +kernel, by decide⟩
theorem kv_X10_229 : CV RX10 229 M_X4_become 4 3 := ⟨kk_X4_become, (List.mem_append_right _ (List.mem_of_getElem? (i := 562) (by decide +kernel))), ki_X4_become, kl_X4_become, kn_X4, ⟨_, rfl, rfl⟩, by decide +kernel, by decide +kernel, by decide +kernel, by decide +kernel, by decide⟩
theorem ks_X4_21 : CS RX4 21 M_X10_commonDivisor 2 := ⟨kk_X10_commonDivisor, kt_X10_commonDivisor, kn_X10, by decide +kernel, by decide +kernel, by decide +kernel, by decide +kernel, by decide, (Or.inr ⟨"FurrowField", (List.mem_append_right _ (List.mem_of_getElem? (i := 566) (by decide +kernel)))⟩)⟩
theorem kv_L_77 : CV "FurrowFieldLaw" 77 M_X10_through 10 2 := ⟨kk_X10_through, (List.mem_append_right _ (List.mem_of_getElem? (i := 569) (by decide +kernel))), ki_X10_through, kl_X10_through, kn_X10, ⟨_, rfl, rfl⟩, by decide +kernel, by decide +kernel, by decide +kernel, by decide +kernel, by decide⟩
theorem kv_X10_232 : CV RX10 232 M_X4_join 4 4 := ⟨kk_X4_join, (List.mem_append_right _ (List.mem_of_getElem? (i := 573) (by decide +kernel))), ki_X4_join, kl_X4_join, kn_X4, ⟨_, rfl, rfl⟩, by decide +kernel, by decide +kernel, by decide +kernel, by decide +kernel, by decide⟩
theorem kv_X4_25 : CV RX4 25 M_X4_become 4 3 := ⟨kk_X4_become, (List.mem_append_right _ (List.mem_of_getElem? (i := 577) (by decide +kernel))), ki_X4_become, kl_X4_become, kn_X4, ⟨_, rfl, rfl⟩, by decide +kernel, by decide +kernel, by decide +kernel, by decide +kernel, by decide⟩
theorem kv_L_81 : CV "FurrowFieldLaw" 81 M_X10_lineAt 10 1 := ⟨kk_X10_lineAt, (List.mem_append_right _ (List.mem_of_getElem? (i := 578) (by decide +kernel))), ki_X10_lineAt, kl_X10_lineAt, kn_X10, ⟨_, rfl, rfl⟩, by decide +kernel, by decide +kernel, by decide +kernel, by decide +kernel, by decide⟩
theorem kv_L_85 : CV "FurrowFieldLaw" 85 M_X10_side 10 2 := ⟨kk_X10_side, (List.mem_append_right _ (List.mem_of_getElem? (i := 582) (by decide +kernel))), ki_X10_side, kl_X10_side, kn_X10, ⟨_, rfl, rfl⟩, by decide +kernel, by decide +kernel, by decide +kernel, by decide +kernel, by decide⟩
theorem kv_X10_245 : CV RX10 245 M_X7_sumAt 7 3 := ⟨kk_X7_sumAt, (List.mem_append_right _ (List.mem_of_getElem? (i := 586) (by decide +kernel))), ki_X7_sumAt, kl_X7_sumAt, kn_X7, ⟨_, rfl, rfl⟩, by decide +kernel, by decide +kernel, by decide +kernel, by decide +kernel, by decide⟩
theorem kv_X7_57 : CV RX7 57 M_X7_row 7 1 := ⟨kk_X7_row, (List.mem_append_right _ (List.mem_of_getElem? (i := 590) (by decide +kernel))), ki_X7_row, kl_X7_row, kn_X7, ⟨_, rfl, rfl⟩, by decide +kernel, by decide +kernel, by decide +kernel, by decide +kernel, by decide⟩
theorem kv_X7_61 : CV RX7 61 M_X4_sideOf 4 2 := ⟨kk_X4_sideOf, (List.mem_append_right _ (List.mem_of_getElem? (i := 594) (by decide +kernel))), ki_X4_sideOf, kl_X4_sideOf, kn_X4, ⟨_, rfl, rfl⟩, by decide +kernel, by decide +kernel, by decide +kernel, by decide +kernel, by decide⟩
theorem kv_L_89 : CV "FurrowFieldLaw" 89 M_X10_halves 10 1 := ⟨kk_X10_halves, (List.mem_append_right _ (List.mem_of_getElem? (i := 598) (by decide +kernel))), ki_X10_halves, kl_X10_halves, kn_X10, ⟨_, rfl, rfl⟩, by decide +kernel, by decide +kernel, by decide +kernel, by decide +kernel, by decide⟩
theorem kv_X10_249 : CV RX10 249 M_X7_isHalvedBy 7 2 := ⟨kk_X7_isHalvedBy, (List.mem_append_right _ (List.mem_of_getElem? (i := 602) (by decide +kernel))), ki_X7_isHalvedBy, kl_X7_isHalvedBy, kn_X7, ⟨_, rfl, rfl⟩, by decide +kernel, by decide +kernel, by decide +kernel, by decide +kernel, by decide⟩
theorem kv_L_93 : CV "FurrowFieldLaw" 93 M_X10_furrow 10 1 := ⟨kk_X10_furrow, (List.mem_append_right _ (List.mem_of_getElem? (i := 606) (by decide +kernel))), ki_X10_furrow, kl_X10_furrow, kn_X10, ⟨_, rfl, rfl⟩, by decide +kernel, by decide +kernel, by decide +kernel, by decide +kernel, by decide⟩
theorem kv_X10_253 : CV RX10 253 M_X10_joined 10 0 := ⟨kk_X10_joined, (List.mem_append_right _ (List.mem_of_getElem? (i := 610) (by decide +kernel))), ki_X10_joined, kl_X10_joined, kn_X10, ⟨_, rfl, rfl⟩, by decide +kernel, by decide +kernel, by decide +kernel, by decide +kernel, by decide⟩
theorem kv_X10_321 : CV RX10 321 M_X5_gather 5 1 := ⟨kk_X5_gather, (List.mem_append_right _ (List.mem_of_getElem? (i := 614) (by decide +kernel))), ki_X5_gather, kl_X5_gather, kn_X5, ⟨_, rfl, rfl⟩, by decide +kernel, by decide +kernel, by decide +kernel, by decide +kernel, by decide⟩
theorem kv_X5_48 : CV RX5 48 M_X7_isTogether 7 2 := ⟨kk_X7_isTogether, (List.mem_append_right _ (List.mem_of_getElem? (i := 618) (by decide +kernel))), ki_X7_isTogether, kl_X7_isTogether, kn_X7, ⟨_, rfl, rfl⟩, by decide +kernel, by decide +kernel, by decide +kernel, by decide +kernel, by decide⟩
theorem kv_X5_52 : CV RX5 52 M_X5_isFirstPair 5 3 := ⟨kk_X5_isFirstPair, (List.mem_append_right _ (List.mem_of_getElem? (i := 619) (by decide +kernel))), ki_X5_isFirstPair, kl_X5_isFirstPair, kn_X5, ⟨_, rfl, rfl⟩, by decide +kernel, by decide +kernel, by decide +kernel, by decide +kernel, by decide⟩
theorem kv_X5_63 : CV RX5 63 M_X7_turn 7 3 := ⟨kk_X7_turn, (List.mem_append_right _ (List.mem_of_getElem? (i := 623) (by decide +kernel))), ki_X7_turn, kl_X7_turn, kn_X7, ⟨_, rfl, rfl⟩, by decide +kernel, by decide +kernel, by decide +kernel, by decide +kernel, by decide⟩
theorem kv_X5_56 : CV RX5 56 M_X5_add 5 3 := ⟨kk_X5_add, (List.mem_append_right _ (List.mem_of_getElem? (i := 624) (by decide +kernel))), ki_X5_add, kl_X5_add, kn_X5, ⟨_, rfl, rfl⟩, by decide +kernel, by decide +kernel, by decide +kernel, by decide +kernel, by decide⟩
theorem kv_X5_73 : CV RX5 73 M_X4_join 4 4 := ⟨kk_X4_join, (List.mem_append_right _ (List.mem_of_getElem? (i := 628) (by decide +kernel))), ki_X4_join, kl_X4_join, kn_X4, ⟨_, rfl, rfl⟩, by decide +kernel, by decide +kernel, by decide +kernel, by decide +kernel, by decide⟩
theorem kv_X5_83 : CV RX5 83 M_X5_plantsOn 5 3 := ⟨kk_X5_plantsOn, (List.mem_append_right _ (List.mem_of_getElem? (i := 629) (by decide +kernel))), ki_X5_plantsOn, kl_X5_plantsOn, kn_X5, ⟨_, rfl, rfl⟩, by decide +kernel, by decide +kernel, by decide +kernel, by decide +kernel, by decide⟩
theorem kv_X10_257 : CV RX10 257 M_X5_furrowCount 5 1 := ⟨kk_X5_furrowCount, (List.mem_append_right _ (List.mem_of_getElem? (i := 637) (by decide +kernel))), ki_X5_furrowCount, kl_X5_furrowCount, kn_X5, ⟨_, rfl, rfl⟩, by decide +kernel, by decide +kernel, by decide +kernel, by decide +kernel, by decide⟩
theorem kv_X5_96 : CV RX5 96 M_X5_findFurrows 5 1 := ⟨kk_X5_findFurrows, (List.mem_append_right _ (List.mem_of_getElem? (i := 641) (by decide +kernel))), ki_X5_findFurrows, kl_X5_findFurrows, kn_X5, ⟨_, rfl, rfl⟩, by decide +kernel, by decide +kernel, by decide +kernel, by decide +kernel, by decide⟩
theorem kv_X5_103 : CV RX5 103 M_X4_become 4 3 := ⟨kk_X4_become, (List.mem_append_right _ (List.mem_of_getElem? (i := 645) (by decide +kernel))), ki_X4_become, kl_X4_become, kn_X4, ⟨_, rfl, rfl⟩, by decide +kernel, by decide +kernel, by decide +kernel, by decide +kernel, by decide⟩
theorem kv_X5_107 : CV RX5 107 M_X7_isHalvedBy 7 2 := ⟨kk_X7_isHalvedBy, (List.mem_append_right _ (List.mem_of_getElem? (i := 646) (by decide +kernel))), ki_X7_isHalvedBy, kl_X7_isHalvedBy, kn_X7, ⟨_, rfl, rfl⟩, by decide +kernel, by decide +kernel, by decide +kernel, by decide +kernel, by decide⟩
theorem kv_X10_261 : CV RX10 261 M_X5_giveFurrow 5 3 := ⟨kk_X5_giveFurrow, (List.mem_append_right _ (List.mem_of_getElem? (i := 647) (by decide +kernel))), ki_X5_giveFurrow, kl_X5_giveFurrow, kn_X5, ⟨_, rfl, rfl⟩, by decide +kernel, by decide +kernel, by decide +kernel, by decide +kernel, by decide⟩
theorem ks_X5_111 : CS RX5 111 M_X10_isBelow 2 := ⟨kk_X10_isBelow, kt_X10_isBelow, kn_X10, by decide +kernel, by decide +kernel, by decide +kernel, by decide +kernel, by decide, (Or.inr ⟨"FurrowField", (List.mem_append_right _ (List.mem_of_getElem? (i := 651) (by decide +kernel)))⟩)⟩
theorem kv_L_97 : CV "FurrowFieldLaw" 97 M_X10_furrows 10 0 := ⟨kk_X10_furrows, (List.mem_append_right _ (List.mem_of_getElem? (i := 652) (by decide +kernel))), ki_X10_furrows, kl_X10_furrows, kn_X10, ⟨_, rfl, rfl⟩, by decide +kernel, by decide +kernel, by decide +kernel, by decide +kernel, by decide⟩
theorem kv_L_101 : CV "FurrowFieldLaw" 101 M_X10_depth 10 3 := ⟨kk_X10_depth, (List.mem_append_right _ (List.mem_of_getElem? (i := 656) (by decide +kernel))), ki_X10_depth, kl_X10_depth, kn_X10, ⟨_, rfl, rfl⟩, by decide +kernel, by decide +kernel, by decide +kernel, by decide +kernel, by decide⟩
theorem kv_X10_265 : CV RX10 265 M_X2_depthAt 2 5 := ⟨kk_X2_depthAt, (List.mem_append_right _ (List.mem_of_getElem? (i := 660) (by decide +kernel))), ki_X2_depthAt, kl_X2_depthAt, kn_X2, ⟨_, rfl, rfl⟩, by decide +kernel, by decide +kernel, by decide +kernel, by decide +kernel, by decide⟩
theorem kv_X2_31 : CV RX2 31 M_X2_isHere 2 1 := ⟨kk_X2_isHere, (List.mem_append_right _ (List.mem_of_getElem? (i := 664) (by decide +kernel))), ki_X2_isHere, kl_X2_isHere, kn_X2, ⟨_, rfl, rfl⟩, by decide +kernel, by decide +kernel, by decide +kernel, by decide +kernel, by decide⟩
theorem kv_X2_38 : CV RX2 38 M_X7_total 7 1 := ⟨kk_X7_total, (List.mem_append_right _ (List.mem_of_getElem? (i := 668) (by decide +kernel))), ki_X7_total, kl_X7_total, kn_X7, ⟨_, rfl, rfl⟩, by decide +kernel, by decide +kernel, by decide +kernel, by decide +kernel, by decide⟩
theorem kv_X2_42 : CV RX2 42 M_X2_leastBeside 2 2 := ⟨kk_X2_leastBeside, (List.mem_append_right _ (List.mem_of_getElem? (i := 672) (by decide +kernel))), ki_X2_leastBeside, kl_X2_leastBeside, kn_X2, ⟨_, rfl, rfl⟩, by decide +kernel, by decide +kernel, by decide +kernel, by decide +kernel, by decide⟩
theorem kv_L_105 : CV "FurrowFieldLaw" 105 M_X10_deepest 10 1 := ⟨kk_X10_deepest, (List.mem_append_right _ (List.mem_of_getElem? (i := 677) (by decide +kernel))), ki_X10_deepest, kl_X10_deepest, kn_X10, ⟨_, rfl, rfl⟩, by decide +kernel, by decide +kernel, by decide +kernel, by decide +kernel, by decide⟩
theorem kv_X10_276 : CV RX10 276 M_X2_findDeepest 2 2 := ⟨kk_X2_findDeepest, (List.mem_append_right _ (List.mem_of_getElem? (i := 683) (by decide +kernel))), ki_X2_findDeepest, kl_X2_findDeepest, kn_X2, ⟨_, rfl, rfl⟩, by decide +kernel, by decide +kernel, by decide +kernel, by decide +kernel, by decide⟩
theorem kv_X2_63 : CV RX2 63 M_X2_consider 2 4 := ⟨kk_X2_consider, (List.mem_append_right _ (List.mem_of_getElem? (i := 687) (by decide +kernel))), ki_X2_consider, kl_X2_consider, kn_X2, ⟨_, rfl, rfl⟩, by decide +kernel, by decide +kernel, by decide +kernel, by decide +kernel, by decide⟩
theorem kv_X2_87 : CV RX2 87 M_X2_isAhead 2 3 := ⟨kk_X2_isAhead, (List.mem_append_right _ (List.mem_of_getElem? (i := 691) (by decide +kernel))), ki_X2_isAhead, kl_X2_isAhead, kn_X2, ⟨_, rfl, rfl⟩, by decide +kernel, by decide +kernel, by decide +kernel, by decide +kernel, by decide⟩
theorem kv_X2_91 : CV RX2 91 M_X2_depthAt 2 5 := ⟨kk_X2_depthAt, (List.mem_append_right _ (List.mem_of_getElem? (i := 695) (by decide +kernel))), ki_X2_depthAt, kl_X2_depthAt, kn_X2, ⟨_, rfl, rfl⟩, by decide +kernel, by decide +kernel, by decide +kernel, by decide +kernel, by decide⟩
theorem kv_X2_70 : CV RX2 70 M_X2_considerCrossing 2 4 := ⟨kk_X2_considerCrossing, (List.mem_append_right _ (List.mem_of_getElem? (i := 696) (by decide +kernel))), ki_X2_considerCrossing, kl_X2_considerCrossing, kn_X2, ⟨_, rfl, rfl⟩, by decide +kernel, by decide +kernel, by decide +kernel, by decide +kernel, by decide⟩
theorem kv_X10_280 : CV RX10 280 M_X2_tell 2 1 := ⟨kk_X2_tell, (List.mem_append_right _ (List.mem_of_getElem? (i := 700) (by decide +kernel))), ki_X2_tell, kl_X2_tell, kn_X2, ⟨_, rfl, rfl⟩, by decide +kernel, by decide +kernel, by decide +kernel, by decide +kernel, by decide⟩
theorem ks_X2_95 : CS RX2 95 M_X10_without 2 := ⟨kk_X10_without, kt_X10_without, kn_X10, by decide +kernel, by decide +kernel, by decide +kernel, by decide +kernel, by decide, (Or.inr ⟨"FurrowField", (List.mem_append_right _ (List.mem_of_getElem? (i := 704) (by decide +kernel)))⟩)⟩
theorem ks_X10_329 : CS RX10 329 M_X10_commonDivisor 2 := ⟨kk_X10_commonDivisor, kt_X10_commonDivisor, kn_X10, by decide +kernel, by decide +kernel, by decide +kernel, by decide +kernel, by decide, (Or.inl (List.mem_append_right _ (List.mem_of_getElem? (i := 707) (by decide +kernel))))⟩
theorem kv_L_110 : CV "FurrowFieldLaw" 110 M_X10_layer 10 1 := ⟨kk_X10_layer, (List.mem_append_right _ (List.mem_of_getElem? (i := 708) (by decide +kernel))), ki_X10_layer, kl_X10_layer, kn_X10, ⟨_, rfl, rfl⟩, by decide +kernel, by decide +kernel, by decide +kernel, by decide +kernel, by decide⟩
theorem kv_X10_284 : CV RX10 284 M_X3_sizeOf 3 1 := ⟨kk_X3_sizeOf, (List.mem_append_right _ (List.mem_of_getElem? (i := 712) (by decide +kernel))), ki_X3_sizeOf, kl_X3_sizeOf, kn_X3, ⟨_, rfl, rfl⟩, by decide +kernel, by decide +kernel, by decide +kernel, by decide +kernel, by decide⟩
theorem kv_L_118 : CV "FurrowFieldLaw" 118 M_X10_widest 10 1 := ⟨kk_X10_widest, (List.mem_append_right _ (List.mem_of_getElem? (i := 720) (by decide +kernel))), ki_X10_widest, kl_X10_widest, kn_X10, ⟨_, rfl, rfl⟩, by decide +kernel, by decide +kernel, by decide +kernel, by decide +kernel, by decide⟩
theorem kv_X10_295 : CV RX10 295 M_X8_findWidest 8 2 := ⟨kk_X8_findWidest, (List.mem_append_right _ (List.mem_of_getElem? (i := 724) (by decide +kernel))), ki_X8_findWidest, kl_X8_findWidest, kn_X8, ⟨_, rfl, rfl⟩, by decide +kernel, by decide +kernel, by decide +kernel, by decide +kernel, by decide⟩
theorem kv_X8_34 : CV RX8 34 M_X8_consider 8 3 := ⟨kk_X8_consider, (List.mem_append_right _ (List.mem_of_getElem? (i := 728) (by decide +kernel))), ki_X8_consider, kl_X8_consider, kn_X8, ⟨_, rfl, rfl⟩, by decide +kernel, by decide +kernel, by decide +kernel, by decide +kernel, by decide⟩
theorem kv_X8_55 : CV RX8 55 M_X8_putInOrder 8 2 := ⟨kk_X8_putInOrder, (List.mem_append_right _ (List.mem_of_getElem? (i := 732) (by decide +kernel))), ki_X8_putInOrder, kl_X8_putInOrder, kn_X8, ⟨_, rfl, rfl⟩, by decide +kernel, by decide +kernel, by decide +kernel, by decide +kernel, by decide⟩
theorem ks_X8_38 : CS RX8 38 M_X10_commonDivisor 2 := ⟨kk_X10_commonDivisor, kt_X10_commonDivisor, kn_X10, by decide +kernel, by decide +kernel, by decide +kernel, by decide +kernel, by decide, (Or.inr ⟨"FurrowField", (List.mem_append_right _ (List.mem_of_getElem? (i := 739) (by decide +kernel)))⟩)⟩
theorem kv_L_122 : CV "FurrowFieldLaw" 122 M_X10_count 10 1 := ⟨kk_X10_count, (List.mem_append_right _ (List.mem_of_getElem? (i := 740) (by decide +kernel))), ki_X10_count, kl_X10_count, kn_X10, ⟨_, rfl, rfl⟩, by decide +kernel, by decide +kernel, by decide +kernel, by decide +kernel, by decide⟩
theorem kv_X10_305 : CV RX10 305 M_X10_bedsThere 10 0 := ⟨kk_X10_bedsThere, (List.mem_append_right _ (List.mem_of_getElem? (i := 744) (by decide +kernel))), ki_X10_bedsThere, kl_X10_bedsThere, kn_X10, ⟨_, rfl, rfl⟩, by decide +kernel, by decide +kernel, by decide +kernel, by decide +kernel, by decide⟩
theorem kv_X10_310 : CV RX10 310 M_X7_total 7 1 := ⟨kk_X7_total, (List.mem_append_right _ (List.mem_of_getElem? (i := 748) (by decide +kernel))), ki_X7_total, kl_X7_total, kn_X7, ⟨_, rfl, rfl⟩, by decide +kernel, by decide +kernel, by decide +kernel, by decide +kernel, by decide⟩
theorem kv_L_126 : CV "FurrowFieldLaw" 126 M_X10_status 10 0 := ⟨kk_X10_status, (List.mem_append_right _ (List.mem_of_getElem? (i := 749) (by decide +kernel))), ki_X10_status, kl_X10_status, kn_X10, ⟨_, rfl, rfl⟩, by decide +kernel, by decide +kernel, by decide +kernel, by decide +kernel, by decide⟩
theorem kv_L_17 : CV "FurrowFieldLaw" 17 M_X11_bed 11 3 := ⟨kk_X11_bed, (List.mem_append_right _ (List.mem_of_getElem? (i := 882) (by decide +kernel))), ki_X11_bed, kl_X11_bed, kn_X11, ⟨_, rfl, rfl⟩, by decide +kernel, by decide +kernel, by decide +kernel, by decide +kernel, by decide⟩
theorem ks_X11_85 : CS RX11 85 M_X11_isBed 1 := ⟨kk_X11_isBed, kt_X11_isBed, kn_X11, by decide +kernel, by decide +kernel, by decide +kernel, by decide +kernel, by decide, (Or.inl (List.mem_append_right _ (List.mem_of_getElem? (i := 886) (by decide +kernel))))⟩
theorem ks_X11_81 : CS RX11 81 M_X11_in 3 := ⟨kk_X11_in, kt_X11_in, kn_X11, by decide +kernel, by decide +kernel, by decide +kernel, by decide +kernel, by decide, (Or.inl (List.mem_append_right _ (List.mem_of_getElem? (i := 890) (by decide +kernel))))⟩
theorem kv_X11_92 : CV RX11 92 M_X11_finds 11 1 := ⟨kk_X11_finds, (List.mem_append_right _ (List.mem_of_getElem? (i := 895) (by decide +kernel))), ki_X11_finds, kl_X11_finds, kn_X11, ⟨_, rfl, rfl⟩, by decide +kernel, by decide +kernel, by decide +kernel, by decide +kernel, by decide⟩
theorem kv_X11_96 : CV RX11 96 M_X11_well 11 1 := ⟨kk_X11_well, (List.mem_append_right _ (List.mem_of_getElem? (i := 900) (by decide +kernel))), ki_X11_well, kl_X11_well, kn_X11, ⟨_, rfl, rfl⟩, by decide +kernel, by decide +kernel, by decide +kernel, by decide +kernel, by decide⟩
theorem kv_L_24 : CV "FurrowFieldLaw" 24 M_X11_set 11 3 := ⟨kk_X11_set, (List.mem_append_right _ (List.mem_of_getElem? (i := 904) (by decide +kernel))), ki_X11_set, kl_X11_set, kn_X11, ⟨_, rfl, rfl⟩, by decide +kernel, by decide +kernel, by decide +kernel, by decide +kernel, by decide⟩
theorem kv_L_29 : CV "FurrowFieldLaw" 29 M_X11_drop 11 1 := ⟨kk_X11_drop, (List.mem_append_right _ (List.mem_of_getElem? (i := 909) (by decide +kernel))), ki_X11_drop, kl_X11_drop, kn_X11, ⟨_, rfl, rfl⟩, by decide +kernel, by decide +kernel, by decide +kernel, by decide +kernel, by decide⟩
theorem kv_L_34 : CV "FurrowFieldLaw" 34 M_X11_copy 11 5 := ⟨kk_X11_copy, (List.mem_append_right _ (List.mem_of_getElem? (i := 913) (by decide +kernel))), ki_X11_copy, kl_X11_copy, kn_X11, ⟨_, rfl, rfl⟩, by decide +kernel, by decide +kernel, by decide +kernel, by decide +kernel, by decide⟩
theorem kv_L_38 : CV "FurrowFieldLaw" 38 M_X11_plant 11 3 := ⟨kk_X11_plant, (List.mem_append_right _ (List.mem_of_getElem? (i := 917) (by decide +kernel))), ki_X11_plant, kl_X11_plant, kn_X11, ⟨_, rfl, rfl⟩, by decide +kernel, by decide +kernel, by decide +kernel, by decide +kernel, by decide⟩
theorem kv_X11_127 : CV RX11 127 M_X11_keep 11 2 := ⟨kk_X11_keep, (List.mem_append_right _ (List.mem_of_getElem? (i := 925) (by decide +kernel))), ki_X11_keep, kl_X11_keep, kn_X11, ⟨_, rfl, rfl⟩, by decide +kernel, by decide +kernel, by decide +kernel, by decide +kernel, by decide⟩
theorem kv_L_42 : CV "FurrowFieldLaw" 42 M_X11_move 11 3 := ⟨kk_X11_move, (List.mem_append_right _ (List.mem_of_getElem? (i := 929) (by decide +kernel))), ki_X11_move, kl_X11_move, kn_X11, ⟨_, rfl, rfl⟩, by decide +kernel, by decide +kernel, by decide +kernel, by decide +kernel, by decide⟩
theorem kv_X11_131 : CV RX11 131 M_X11_isPlant 11 1 := ⟨kk_X11_isPlant, (List.mem_append_right _ (List.mem_of_getElem? (i := 933) (by decide +kernel))), ki_X11_isPlant, kl_X11_isPlant, kn_X11, ⟨_, rfl, rfl⟩, by decide +kernel, by decide +kernel, by decide +kernel, by decide +kernel, by decide⟩
theorem kv_L_46 : CV "FurrowFieldLaw" 46 M_X11_away 11 1 := ⟨kk_X11_away, (List.mem_append_right _ (List.mem_of_getElem? (i := 937) (by decide +kernel))), ki_X11_away, kl_X11_away, kn_X11, ⟨_, rfl, rfl⟩, by decide +kernel, by decide +kernel, by decide +kernel, by decide +kernel, by decide⟩
theorem kv_X11_134 : CV RX11 134 M_X11_there 11 0 := ⟨kk_X11_there, (List.mem_append_right _ (List.mem_of_getElem? (i := 941) (by decide +kernel))), ki_X11_there, kl_X11_there, kn_X11, ⟨_, rfl, rfl⟩, by decide +kernel, by decide +kernel, by decide +kernel, by decide +kernel, by decide⟩
theorem kv_L_51 : CV "FurrowFieldLaw" 51 M_X11_colour 11 2 := ⟨kk_X11_colour, (List.mem_append_right _ (List.mem_of_getElem? (i := 945) (by decide +kernel))), ki_X11_colour, kl_X11_colour, kn_X11, ⟨_, rfl, rfl⟩, by decide +kernel, by decide +kernel, by decide +kernel, by decide +kernel, by decide⟩
theorem kv_L_55 : CV "FurrowFieldLaw" 55 M_X11_told 11 2 := ⟨kk_X11_told, (List.mem_append_right _ (List.mem_of_getElem? (i := 949) (by decide +kernel))), ki_X11_told, kl_X11_told, kn_X11, ⟨_, rfl, rfl⟩, by decide +kernel, by decide +kernel, by decide +kernel, by decide +kernel, by decide⟩
theorem kv_X11_140 : CV RX11 140 M_X11_findLayers 11 0 := ⟨kk_X11_findLayers, (List.mem_append_right _ (List.mem_of_getElem? (i := 954) (by decide +kernel))), ki_X11_findLayers, kl_X11_findLayers, kn_X11, ⟨_, rfl, rfl⟩, by decide +kernel, by decide +kernel, by decide +kernel, by decide +kernel, by decide⟩
theorem kv_X11_264 : CV RX11 264 M_X11_isOnEdge 11 1 := ⟨kk_X11_isOnEdge, (List.mem_append_right _ (List.mem_of_getElem? (i := 958) (by decide +kernel))), ki_X11_isOnEdge, kl_X11_isOnEdge, kn_X11, ⟨_, rfl, rfl⟩, by decide +kernel, by decide +kernel, by decide +kernel, by decide +kernel, by decide⟩
theorem kv_X11_200 : CV RX11 200 M_X11_isApart 11 2 := ⟨kk_X11_isApart, (List.mem_append_right _ (List.mem_of_getElem? (i := 962) (by decide +kernel))), ki_X11_isApart, kl_X11_isApart, kn_X11, ⟨_, rfl, rfl⟩, by decide +kernel, by decide +kernel, by decide +kernel, by decide +kernel, by decide⟩
theorem kv_X11_203 : CV RX11 203 M_X11_look 11 2 := ⟨kk_X11_look, (List.mem_append_right _ (List.mem_of_getElem? (i := 966) (by decide +kernel))), ki_X11_look, kl_X11_look, kn_X11, ⟨_, rfl, rfl⟩, by decide +kernel, by decide +kernel, by decide +kernel, by decide +kernel, by decide⟩
theorem ks_X11_181 : CS RX11 181 M_X11_divisor 2 := ⟨kk_X11_divisor, kt_X11_divisor, kn_X11, by decide +kernel, by decide +kernel, by decide +kernel, by decide +kernel, by decide, (Or.inl (List.mem_append_right _ (List.mem_of_getElem? (i := 970) (by decide +kernel))))⟩
theorem kv_X11_210 : CV RX11 210 M_X11_at 11 1 := ⟨kk_X11_at, (List.mem_append_right _ (List.mem_of_getElem? (i := 973) (by decide +kernel))), ki_X11_at, kl_X11_at, kn_X11, ⟨_, rfl, rfl⟩, by decide +kernel, by decide +kernel, by decide +kernel, by decide +kernel, by decide⟩
theorem kv_L_59 : CV "FurrowFieldLaw" 59 M_X11_is 11 2 := ⟨kk_X11_is, (List.mem_append_right _ (List.mem_of_getElem? (i := 977) (by decide +kernel))), ki_X11_is, kl_X11_is, kn_X11, ⟨_, rfl, rfl⟩, by decide +kernel, by decide +kernel, by decide +kernel, by decide +kernel, by decide⟩
theorem kv_X11_143 : CV RX11 143 M_X11_isOf 11 2 := ⟨kk_X11_isOf, (List.mem_append_right _ (List.mem_of_getElem? (i := 981) (by decide +kernel))), ki_X11_isOf, kl_X11_isOf, kn_X11, ⟨_, rfl, rfl⟩, by decide +kernel, by decide +kernel, by decide +kernel, by decide +kernel, by decide⟩
theorem kv_L_63 : CV "FurrowFieldLaw" 63 M_X11_ask 11 2 := ⟨kk_X11_ask, (List.mem_append_right _ (List.mem_of_getElem? (i := 985) (by decide +kernel))), ki_X11_ask, kl_X11_ask, kn_X11, ⟨_, rfl, rfl⟩, by decide +kernel, by decide +kernel, by decide +kernel, by decide +kernel, by decide⟩
theorem kv_X11_172 : CV RX11 172 M_X11_asked 11 2 := ⟨kk_X11_asked, (List.mem_append_right _ (List.mem_of_getElem? (i := 989) (by decide +kernel))), ki_X11_asked, kl_X11_asked, kn_X11, ⟨_, rfl, rfl⟩, by decide +kernel, by decide +kernel, by decide +kernel, by decide +kernel, by decide⟩
theorem kv_X11_157 : CV RX11 157 M_X11_red 11 1 := ⟨kk_X11_red, (List.mem_append_right _ (List.mem_of_getElem? (i := 993) (by decide +kernel))), ki_X11_red, kl_X11_red, kn_X11, ⟨_, rfl, rfl⟩, by decide +kernel, by decide +kernel, by decide +kernel, by decide +kernel, by decide⟩
theorem kv_X11_153 : CV RX11 153 M_X11_begins 11 1 := ⟨kk_X11_begins, (List.mem_append_right _ (List.mem_of_getElem? (i := 997) (by decide +kernel))), ki_X11_begins, kl_X11_begins, kn_X11, ⟨_, rfl, rfl⟩, by decide +kernel, by decide +kernel, by decide +kernel, by decide +kernel, by decide⟩
theorem kv_X11_160 : CV RX11 160 M_X11_blue 11 1 := ⟨kk_X11_blue, (List.mem_append_right _ (List.mem_of_getElem? (i := 1001) (by decide +kernel))), ki_X11_blue, kl_X11_blue, kn_X11, ⟨_, rfl, rfl⟩, by decide +kernel, by decide +kernel, by decide +kernel, by decide +kernel, by decide⟩
theorem kv_X11_166 : CV RX11 166 M_X11_all 11 1 := ⟨kk_X11_all, (List.mem_append_right _ (List.mem_of_getElem? (i := 1005) (by decide +kernel))), ki_X11_all, kl_X11_all, kn_X11, ⟨_, rfl, rfl⟩, by decide +kernel, by decide +kernel, by decide +kernel, by decide +kernel, by decide⟩
theorem kv_X11_163 : CV RX11 163 M_X11_lentAll 11 1 := ⟨kk_X11_lentAll, (List.mem_append_right _ (List.mem_of_getElem? (i := 1009) (by decide +kernel))), ki_X11_lentAll, kl_X11_lentAll, kn_X11, ⟨_, rfl, rfl⟩, by decide +kernel, by decide +kernel, by decide +kernel, by decide +kernel, by decide⟩
theorem kv_X11_169 : CV RX11 169 M_X11_worth 11 1 := ⟨kk_X11_worth, (List.mem_append_right _ (List.mem_of_getElem? (i := 1013) (by decide +kernel))), ki_X11_worth, kl_X11_worth, kn_X11, ⟨_, rfl, rfl⟩, by decide +kernel, by decide +kernel, by decide +kernel, by decide +kernel, by decide⟩
theorem kv_L_67 : CV "FurrowFieldLaw" 67 M_X11_trace 11 1 := ⟨kk_X11_trace, (List.mem_append_right _ (List.mem_of_getElem? (i := 1017) (by decide +kernel))), ki_X11_trace, kl_X11_trace, kn_X11, ⟨_, rfl, rfl⟩, by decide +kernel, by decide +kernel, by decide +kernel, by decide +kernel, by decide⟩
theorem kv_L_72 : CV "FurrowFieldLaw" 72 M_X11_undo 11 0 := ⟨kk_X11_undo, (List.mem_append_right _ (List.mem_of_getElem? (i := 1021) (by decide +kernel))), ki_X11_undo, kl_X11_undo, kn_X11, ⟨_, rfl, rfl⟩, by decide +kernel, by decide +kernel, by decide +kernel, by decide +kernel, by decide⟩
theorem kv_L_76 : CV "FurrowFieldLaw" 76 M_X11_line 11 3 := ⟨kk_X11_line, (List.mem_append_right _ (List.mem_of_getElem? (i := 1026) (by decide +kernel))), ki_X11_line, kl_X11_line, kn_X11, ⟨_, rfl, rfl⟩, by decide +kernel, by decide +kernel, by decide +kernel, by decide +kernel, by decide⟩
theorem kv_L_80 : CV "FurrowFieldLaw" 80 M_X11_through 11 2 := ⟨kk_X11_through, (List.mem_append_right _ (List.mem_of_getElem? (i := 1032) (by decide +kernel))), ki_X11_through, kl_X11_through, kn_X11, ⟨_, rfl, rfl⟩, by decide +kernel, by decide +kernel, by decide +kernel, by decide +kernel, by decide⟩
theorem kv_X11_207 : CV RX11 207 M_X11_putLine 11 0 := ⟨kk_X11_putLine, (List.mem_append_right _ (List.mem_of_getElem? (i := 1036) (by decide +kernel))), ki_X11_putLine, kl_X11_putLine, kn_X11, ⟨_, rfl, rfl⟩, by decide +kernel, by decide +kernel, by decide +kernel, by decide +kernel, by decide⟩
theorem kv_L_84 : CV "FurrowFieldLaw" 84 M_X11_lineAt 11 1 := ⟨kk_X11_lineAt, (List.mem_append_right _ (List.mem_of_getElem? (i := 1040) (by decide +kernel))), ki_X11_lineAt, kl_X11_lineAt, kn_X11, ⟨_, rfl, rfl⟩, by decide +kernel, by decide +kernel, by decide +kernel, by decide +kernel, by decide⟩
theorem kv_L_88 : CV "FurrowFieldLaw" 88 M_X11_side 11 2 := ⟨kk_X11_side, (List.mem_append_right _ (List.mem_of_getElem? (i := 1044) (by decide +kernel))), ki_X11_side, kl_X11_side, kn_X11, ⟨_, rfl, rfl⟩, by decide +kernel, by decide +kernel, by decide +kernel, by decide +kernel, by decide⟩
theorem kv_X11_217 : CV RX11 217 M_X11_lookAtLine 11 0 := ⟨kk_X11_lookAtLine, (List.mem_append_right _ (List.mem_of_getElem? (i := 1048) (by decide +kernel))), ki_X11_lookAtLine, kl_X11_lookAtLine, kn_X11, ⟨_, rfl, rfl⟩, by decide +kernel, by decide +kernel, by decide +kernel, by decide +kernel, by decide⟩
theorem kv_X11_214 : CV RX11 214 M_X11_sumOf 11 2 := ⟨kk_X11_sumOf, (List.mem_append_right _ (List.mem_of_getElem? (i := 1052) (by decide +kernel))), ki_X11_sumOf, kl_X11_sumOf, kn_X11, ⟨_, rfl, rfl⟩, by decide +kernel, by decide +kernel, by decide +kernel, by decide +kernel, by decide⟩
theorem kv_L_92 : CV "FurrowFieldLaw" 92 M_X11_halves 11 1 := ⟨kk_X11_halves, (List.mem_append_right _ (List.mem_of_getElem? (i := 1056) (by decide +kernel))), ki_X11_halves, kl_X11_halves, kn_X11, ⟨_, rfl, rfl⟩, by decide +kernel, by decide +kernel, by decide +kernel, by decide +kernel, by decide⟩
theorem kv_X11_220 : CV RX11 220 M_X11_isHalved 11 1 := ⟨kk_X11_isHalved, (List.mem_append_right _ (List.mem_of_getElem? (i := 1060) (by decide +kernel))), ki_X11_isHalved, kl_X11_isHalved, kn_X11, ⟨_, rfl, rfl⟩, by decide +kernel, by decide +kernel, by decide +kernel, by decide +kernel, by decide⟩
theorem kv_L_96 : CV "FurrowFieldLaw" 96 M_X11_furrow 11 1 := ⟨kk_X11_furrow, (List.mem_append_right _ (List.mem_of_getElem? (i := 1064) (by decide +kernel))), ki_X11_furrow, kl_X11_furrow, kn_X11, ⟨_, rfl, rfl⟩, by decide +kernel, by decide +kernel, by decide +kernel, by decide +kernel, by decide⟩
theorem kv_X11_229 : CV RX11 229 M_X11_findFurrow 11 1 := ⟨kk_X11_findFurrow, (List.mem_append_right _ (List.mem_of_getElem? (i := 1068) (by decide +kernel))), ki_X11_findFurrow, kl_X11_findFurrow, kn_X11, ⟨_, rfl, rfl⟩, by decide +kernel, by decide +kernel, by decide +kernel, by decide +kernel, by decide⟩
theorem kv_X11_223 : CV RX11 223 M_X11_isFirst 11 2 := ⟨kk_X11_isFirst, (List.mem_append_right _ (List.mem_of_getElem? (i := 1072) (by decide +kernel))), ki_X11_isFirst, kl_X11_isFirst, kn_X11, ⟨_, rfl, rfl⟩, by decide +kernel, by decide +kernel, by decide +kernel, by decide +kernel, by decide⟩
theorem kv_X11_226 : CV RX11 226 M_X11_firstThere 11 0 := ⟨kk_X11_firstThere, (List.mem_append_right _ (List.mem_of_getElem? (i := 1076) (by decide +kernel))), ki_X11_firstThere, kl_X11_firstThere, kn_X11, ⟨_, rfl, rfl⟩, by decide +kernel, by decide +kernel, by decide +kernel, by decide +kernel, by decide⟩
theorem kv_L_100 : CV "FurrowFieldLaw" 100 M_X11_furrows 11 0 := ⟨kk_X11_furrows, (List.mem_append_right _ (List.mem_of_getElem? (i := 1080) (by decide +kernel))), ki_X11_furrows, kl_X11_furrows, kn_X11, ⟨_, rfl, rfl⟩, by decide +kernel, by decide +kernel, by decide +kernel, by decide +kernel, by decide⟩
theorem kv_L_104 : CV "FurrowFieldLaw" 104 M_X11_depth 11 3 := ⟨kk_X11_depth, (List.mem_append_right _ (List.mem_of_getElem? (i := 1084) (by decide +kernel))), ki_X11_depth, kl_X11_depth, kn_X11, ⟨_, rfl, rfl⟩, by decide +kernel, by decide +kernel, by decide +kernel, by decide +kernel, by decide⟩
theorem kv_X11_240 : CV RX11 240 M_X11_depthOf 11 3 := ⟨kk_X11_depthOf, (List.mem_append_right _ (List.mem_of_getElem? (i := 1089) (by decide +kernel))), ki_X11_depthOf, kl_X11_depthOf, kn_X11, ⟨_, rfl, rfl⟩, by decide +kernel, by decide +kernel, by decide +kernel, by decide +kernel, by decide⟩
theorem kv_X11_234 : CV RX11 234 M_X11_sumBeyond 11 5 := ⟨kk_X11_sumBeyond, (List.mem_append_right _ (List.mem_of_getElem? (i := 1094) (by decide +kernel))), ki_X11_sumBeyond, kl_X11_sumBeyond, kn_X11, ⟨_, rfl, rfl⟩, by decide +kernel, by decide +kernel, by decide +kernel, by decide +kernel, by decide⟩
theorem kv_L_109 : CV "FurrowFieldLaw" 109 M_X11_deepest 11 1 := ⟨kk_X11_deepest, (List.mem_append_right _ (List.mem_of_getElem? (i := 1098) (by decide +kernel))), ki_X11_deepest, kl_X11_deepest, kn_X11, ⟨_, rfl, rfl⟩, by decide +kernel, by decide +kernel, by decide +kernel, by decide +kernel, by decide⟩
theorem kv_X11_260 : CV RX11 260 M_X11_offer 11 3 := ⟨kk_X11_offer, (List.mem_append_right _ (List.mem_of_getElem? (i := 1104) (by decide +kernel))), ki_X11_offer, kl_X11_offer, kn_X11, ⟨_, rfl, rfl⟩, by decide +kernel, by decide +kernel, by decide +kernel, by decide +kernel, by decide⟩
theorem kv_L_113 : CV "FurrowFieldLaw" 113 M_X11_layer 11 1 := ⟨kk_X11_layer, (List.mem_append_right _ (List.mem_of_getElem? (i := 1108) (by decide +kernel))), ki_X11_layer, kl_X11_layer, kn_X11, ⟨_, rfl, rfl⟩, by decide +kernel, by decide +kernel, by decide +kernel, by decide +kernel, by decide⟩
theorem kv_L_117 : CV "FurrowFieldLaw" 117 M_X11_most 11 1 := ⟨kk_X11_most, (List.mem_append_right _ (List.mem_of_getElem? (i := 1112) (by decide +kernel))), ki_X11_most, kl_X11_most, kn_X11, ⟨_, rfl, rfl⟩, by decide +kernel, by decide +kernel, by decide +kernel, by decide +kernel, by decide⟩
theorem kv_L_121 : CV "FurrowFieldLaw" 121 M_X11_widest 11 1 := ⟨kk_X11_widest, (List.mem_append_right _ (List.mem_of_getElem? (i := 1116) (by decide +kernel))), ki_X11_widest, kl_X11_widest, kn_X11, ⟨_, rfl, rfl⟩, by decide +kernel, by decide +kernel, by decide +kernel, by decide +kernel, by decide⟩
theorem kv_X11_273 : CV RX11 273 M_X11_offerGap 11 2 := ⟨kk_X11_offerGap, (List.mem_append_right _ (List.mem_of_getElem? (i := 1120) (by decide +kernel))), ki_X11_offerGap, kl_X11_offerGap, kn_X11, ⟨_, rfl, rfl⟩, by decide +kernel, by decide +kernel, by decide +kernel, by decide +kernel, by decide⟩
theorem kv_L_125 : CV "FurrowFieldLaw" 125 M_X11_count 11 1 := ⟨kk_X11_count, (List.mem_append_right _ (List.mem_of_getElem? (i := 1124) (by decide +kernel))), ki_X11_count, kl_X11_count, kn_X11, ⟨_, rfl, rfl⟩, by decide +kernel, by decide +kernel, by decide +kernel, by decide +kernel, by decide⟩
theorem kv_L_129 : CV "FurrowFieldLaw" 129 M_X11_status 11 0 := ⟨kk_X11_status, (List.mem_append_right _ (List.mem_of_getElem? (i := 1128) (by decide +kernel))), ki_X11_status, kl_X11_status, kn_X11, ⟨_, rfl, rfl⟩, by decide +kernel, by decide +kernel, by decide +kernel, by decide +kernel, by decide⟩
theorem kc_X10_92 : Cond.constant RX10 92 (-1000001 : Int32) ∈ lw_tbl := (List.mem_append_right _ (List.mem_of_getElem? (i := 367) (by decide +kernel)))
theorem kc_X10_313 : Cond.constant RX10 313 (-1000010 : Int32) ∈ lw_tbl := (List.mem_append_right _ (List.mem_of_getElem? (i := 372) (by decide +kernel)))
theorem kc_X10_104 : Cond.constantLong RX10 104 (-1000001 : Int64) ∈ lw_tbl := (List.mem_append_right _ (List.mem_of_getElem? (i := 385) (by decide +kernel)))
theorem kj_X10_131 : Cond.methodLink RX10 131 arraycopyName ∈ lw_tbl := (List.mem_append_right _ (List.mem_of_getElem? (i := 402) (by decide +kernel)))
theorem kc_X10_140 : Cond.constant RX10 140 (-1000003 : Int32) ∈ lw_tbl := (List.mem_append_right _ (List.mem_of_getElem? (i := 409) (by decide +kernel)))
theorem kc_X10_327 : Cond.constantLong RX10 327 (300 : Int64) ∈ lw_tbl := (List.mem_append_right _ (List.mem_of_getElem? (i := 413) (by decide +kernel)))
theorem kg_X6_53 : Cond.fieldLinkNest RX6 53 "FurrowField" "BODIES" "[I" "FurrowField" ∈ lw_tbl := (List.mem_append_right _ (List.mem_of_getElem? (i := 437) (by decide +kernel)))
theorem kj_X6_65 : Cond.methodLink RX6 65 Lib.Math.max.name ∈ lw_tbl := (List.mem_append_right _ (List.mem_of_getElem? (i := 448) (by decide +kernel)))
theorem kg_X6_49 : Cond.fieldLinkNest RX6 49 "FurrowField" "IS_TOO" "[I" "FurrowField" ∈ lw_tbl := (List.mem_append_right _ (List.mem_of_getElem? (i := 537) (by decide +kernel)))
theorem kc_X10_206 : Cond.constant RX10 206 (-1000000 : Int32) ∈ lw_tbl := (List.mem_append_right _ (List.mem_of_getElem? (i := 551) (by decide +kernel)))
theorem kc_X10_213 : Cond.constant RX10 213 (-1000002 : Int32) ∈ lw_tbl := (List.mem_append_right _ (List.mem_of_getElem? (i := 556) (by decide +kernel)))
theorem kc_X10_223 : Cond.constantLong RX10 223 (1000000 : Int64) ∈ lw_tbl := (List.mem_append_right _ (List.mem_of_getElem? (i := 561) (by decide +kernel)))
theorem kj_X5_87 : Cond.methodLink RX5 87 Lib.Math.max.name ∈ lw_tbl := (List.mem_append_right _ (List.mem_of_getElem? (i := 633) (by decide +kernel)))
theorem kj_X5_93 : Cond.methodLink RX5 93 Lib.Math.min.name ∈ lw_tbl := (List.mem_append_right _ (List.mem_of_getElem? (i := 634) (by decide +kernel)))
theorem kj_X2_46 : Cond.methodLink RX2 46 Lib.Math.min.name ∈ lw_tbl := (List.mem_append_right _ (List.mem_of_getElem? (i := 676) (by decide +kernel)))
theorem kc_X10_269 : Cond.constantLong RX10 269 (-1000002 : Int64) ∈ lw_tbl := (List.mem_append_right _ (List.mem_of_getElem? (i := 681) (by decide +kernel)))
theorem kc_X10_271 : Cond.constantLong RX10 271 (-1000003 : Int64) ∈ lw_tbl := (List.mem_append_right _ (List.mem_of_getElem? (i := 682) (by decide +kernel)))
theorem kj_X8_59 : Cond.methodLink RX8 59 Lib.MathLoose.max_long.x ∈ lw_tbl := (List.mem_append_right _ (List.mem_of_getElem? (i := 736) (by decide +kernel)))
theorem kc_X11_26 : Cond.constant RX11 26 (-1000000 : Int32) ∈ lw_tbl := (List.mem_append_right _ (List.mem_of_getElem? (i := 759) (by decide +kernel)))
theorem kc_X11_79 : Cond.constantLong RX11 79 (7 : Int64) ∈ lw_tbl := (List.mem_append_right _ (List.mem_of_getElem? (i := 889) (by decide +kernel)))
theorem kc_X11_89 : Cond.constantLong RX11 89 (2 : Int64) ∈ lw_tbl := (List.mem_append_right _ (List.mem_of_getElem? (i := 893) (by decide +kernel)))
theorem kc_X11_91 : Cond.constant RX11 91 (-1000001 : Int32) ∈ lw_tbl := (List.mem_append_right _ (List.mem_of_getElem? (i := 894) (by decide +kernel)))
theorem kc_X11_78 : Cond.constant RX11 78 (-1000010 : Int32) ∈ lw_tbl := (List.mem_append_right _ (List.mem_of_getElem? (i := 899) (by decide +kernel)))
theorem kc_X11_99 : Cond.constantLong RX11 99 (-1000001 : Int64) ∈ lw_tbl := (List.mem_append_right _ (List.mem_of_getElem? (i := 908) (by decide +kernel)))
theorem kc_X11_120 : Cond.constantLong RX11 120 (4 : Int64) ∈ lw_tbl := (List.mem_append_right _ (List.mem_of_getElem? (i := 921) (by decide +kernel)))
theorem kc_X11_122 : Cond.constant RX11 122 (-1000003 : Int32) ∈ lw_tbl := (List.mem_append_right _ (List.mem_of_getElem? (i := 922) (by decide +kernel)))
theorem kc_X11_123 : Cond.constantLong RX11 123 (-300 : Int64) ∈ lw_tbl := (List.mem_append_right _ (List.mem_of_getElem? (i := 923) (by decide +kernel)))
theorem kc_X11_125 : Cond.constantLong RX11 125 (300 : Int64) ∈ lw_tbl := (List.mem_append_right _ (List.mem_of_getElem? (i := 924) (by decide +kernel)))
theorem kc_X11_138 : Cond.constantLong RX11 138 (3 : Int64) ∈ lw_tbl := (List.mem_append_right _ (List.mem_of_getElem? (i := 953) (by decide +kernel)))
theorem kc_X11_176 : Cond.constant RX11 176 (-1000002 : Int32) ∈ lw_tbl := (List.mem_append_right _ (List.mem_of_getElem? (i := 1025) (by decide +kernel)))
theorem kc_X11_177 : Cond.constantLong RX11 177 (-1000000 : Int64) ∈ lw_tbl := (List.mem_append_right _ (List.mem_of_getElem? (i := 1030) (by decide +kernel)))
theorem kc_X11_179 : Cond.constantLong RX11 179 (1000000 : Int64) ∈ lw_tbl := (List.mem_append_right _ (List.mem_of_getElem? (i := 1031) (by decide +kernel)))
theorem kc_X11_238 : Cond.constantLong RX11 238 (1000 : Int64) ∈ lw_tbl := (List.mem_append_right _ (List.mem_of_getElem? (i := 1088) (by decide +kernel)))
theorem kc_X11_232 : Cond.constantLong RX11 232 (-1 : Int64) ∈ lw_tbl := (List.mem_append_right _ (List.mem_of_getElem? (i := 1093) (by decide +kernel)))
theorem kc_X11_256 : Cond.constantLong RX11 256 (-1000002 : Int64) ∈ lw_tbl := (List.mem_append_right _ (List.mem_of_getElem? (i := 1102) (by decide +kernel)))
theorem kc_X11_258 : Cond.constantLong RX11 258 (-1000003 : Int64) ∈ lw_tbl := (List.mem_append_right _ (List.mem_of_getElem? (i := 1103) (by decide +kernel)))
end
section
/-! numbers as integers: results named, with what they are; branches by integers -/
theorem t32_add {x y : Int32} (h1 : -2147483648 ≤ x.toInt + y.toInt) (h2 : x.toInt + y.toInt < 2147483648) : (x + y).toInt = x.toInt + y.toInt := by
  rw [Int32.toInt_add]; exact Int.bmod_eq_of_le_mul_two (by omega) (by omega)
theorem t32_sub {x y : Int32} (h1 : -2147483648 ≤ x.toInt - y.toInt) (h2 : x.toInt - y.toInt < 2147483648) : (x - y).toInt = x.toInt - y.toInt := by
  rw [Int32.toInt_sub]; exact Int.bmod_eq_of_le_mul_two (by omega) (by omega)
theorem t32_mul {x y : Int32} (h1 : -2147483648 ≤ x.toInt * y.toInt) (h2 : x.toInt * y.toInt < 2147483648) : (x * y).toInt = x.toInt * y.toInt := by
  rw [Int32.toInt_mul]; exact Int.bmod_eq_of_le_mul_two (by omega) (by omega)
theorem t32_neg {x : Int32} (h1 : -2147483648 ≤ -x.toInt) (h2 : -x.toInt < 2147483648) : (-x).toInt = -x.toInt := by
  rw [Int32.toInt_neg]; exact Int.bmod_eq_of_le_mul_two (by omega) (by omega)
theorem t64_add {x y : Int64} (h1 : -9223372036854775808 ≤ x.toInt + y.toInt) (h2 : x.toInt + y.toInt < 9223372036854775808) : (x + y).toInt = x.toInt + y.toInt := by
  rw [Int64.toInt_add]; exact Int.bmod_eq_of_le_mul_two (by omega) (by omega)
theorem t64_sub {x y : Int64} (h1 : -9223372036854775808 ≤ x.toInt - y.toInt) (h2 : x.toInt - y.toInt < 9223372036854775808) : (x - y).toInt = x.toInt - y.toInt := by
  rw [Int64.toInt_sub]; exact Int.bmod_eq_of_le_mul_two (by omega) (by omega)
theorem t64_mul {x y : Int64} (h1 : -9223372036854775808 ≤ x.toInt * y.toInt) (h2 : x.toInt * y.toInt < 9223372036854775808) : (x * y).toInt = x.toInt * y.toInt := by
  rw [Int64.toInt_mul]; exact Int.bmod_eq_of_le_mul_two (by omega) (by omega)
theorem t64_neg {x : Int64} (h1 : -9223372036854775808 ≤ -x.toInt) (h2 : -x.toInt < 9223372036854775808) : (-x).toInt = -x.toInt := by
  rw [Int64.toInt_neg]; exact Int.bmod_eq_of_le_mul_two (by omega) (by omega)
theorem t_tdiv {a b : Int} (hb : 0 < b) : (0 ≤ a → 0 ≤ a.tdiv b ∧ a.tdiv b ≤ a) ∧ (a ≤ 0 → a ≤ a.tdiv b ∧ a.tdiv b ≤ 0) := by
  constructor
  · intro h
    rw [Int.tdiv_eq_ediv_of_nonneg h]
    exact ⟨Int.ediv_nonneg h (by omega), Int.ediv_le_self b h⟩
  · intro h
    have e : a.tdiv b = -((-a).tdiv b) := by rw [Int.neg_tdiv]; omega
    rw [e, Int.tdiv_eq_ediv_of_nonneg (by omega : 0 ≤ -a)]
    have := Int.ediv_nonneg (a := -a) (b := b) (by omega) (by omega)
    have := Int.ediv_le_self b (a := -a) (by omega)
    omega
theorem t32_div {x y : Int32} (h : 0 < y.toInt) : (x / y).toInt = x.toInt.tdiv y.toInt := by
  rw [Int32.toInt_div]
  have h1 := x.toInt_lt
  have h2 := x.le_toInt
  have h3 := t_tdiv (a := x.toInt) h
  rcases Int.le_total 0 x.toInt with h0 | h0
  · have := h3.1 h0
    exact Int.bmod_eq_of_le_mul_two (by omega) (by omega)
  · have := h3.2 h0
    exact Int.bmod_eq_of_le_mul_two (by omega) (by omega)
theorem t64_div {x y : Int64} (h : 0 < y.toInt) : (x / y).toInt = x.toInt.tdiv y.toInt := by
  rw [Int64.toInt_div]
  have h1 := x.toInt_lt
  have h2 := x.le_toInt
  have h3 := t_tdiv (a := x.toInt) h
  rcases Int.le_total 0 x.toInt with h0 | h0
  · have := h3.1 h0
    exact Int.bmod_eq_of_le_mul_two (by omega) (by omega)
  · have := h3.2 h0
    exact Int.bmod_eq_of_le_mul_two (by omega) (by omega)
/-- a long's remainder, of numbers that are not below 0 -/
theorem t64_rem {x y : Int64} (h : 0 < y.toInt) (h0 : 0 ≤ x.toInt) : (x - x / y * y).toInt = x.toInt % y.toInt := by
  have hx := x.toInt_lt
  have hy := y.toInt_lt
  have hd := t64_div (x := x) h
  have q0 := Int.mul_nonneg (by omega : 0 ≤ y.toInt) (Int.ediv_nonneg h0 (by omega : 0 ≤ y.toInt))
  rw [Int.tdiv_eq_ediv_of_nonneg h0] at hd
  have e := Int.mul_ediv_add_emod x.toInt y.toInt
  have m1 := Int.emod_nonneg x.toInt (by omega : y.toInt ≠ 0)
  have m2 := Int.emod_lt_of_pos x.toInt h
  have hm : (x / y * y).toInt = x.toInt / y.toInt * y.toInt := by
    rw [t64_mul]
    · rw [hd]
    · rw [hd, Int.mul_comm]; omega
    · rw [hd, Int.mul_comm]; omega
  rw [t64_sub]
  · rw [hm, Int.mul_comm]; omega
  · rw [hm, Int.mul_comm]; omega
  · rw [hm, Int.mul_comm]; omega
theorem zclamp {i : Int32} {j : Nat} (h : i.toInt = (j : Int)) : i.toNatClampNeg = j := by
  unfold Int32.toNatClampNeg
  omega
theorem zin_of {i : Int32} {j n : Nat} (h : i.toInt = (j : Int)) (hj : j < n) : vp_in i n := by
  rw [vp_in_iff]
  omega
section ZI
variable {l : Launch} {G : Gx} {M : Mt} {d pc : Nat} {L : Lc} {st : List Value} {σ : Sg} {Q : Option Value → Sg → Prop}
theorem z_iaddT {x y : Int32} {cx cy : Int} (hd : decode M.2.1 pc = .ok (.iadd, 1)) (hx : x.toInt = cx) (hy : y.toInt = cy) (h1 : -2147483648 ≤ cx + cy) (h2 : cx + cy < 2147483648) (k : ∀ v : Int32, v.toInt = cx + cy → Z l G M d (pc + 1) L (.int v :: st) σ Q) : Z l G M d pc L (.int y :: .int x :: st) σ Q := by
  subst hx; subst hy
  exact z_iadd hd (k _ (t32_add h1 h2))
theorem z_isubT {x y : Int32} {cx cy : Int} (hd : decode M.2.1 pc = .ok (.isub, 1)) (hx : x.toInt = cx) (hy : y.toInt = cy) (h1 : -2147483648 ≤ cx - cy) (h2 : cx - cy < 2147483648) (k : ∀ v : Int32, v.toInt = cx - cy → Z l G M d (pc + 1) L (.int v :: st) σ Q) : Z l G M d pc L (.int y :: .int x :: st) σ Q := by
  subst hx; subst hy
  exact z_isub hd (k _ (t32_sub h1 h2))
theorem z_imulT {x y : Int32} {cx cy : Int} (hd : decode M.2.1 pc = .ok (.imul, 1)) (hx : x.toInt = cx) (hy : y.toInt = cy) (h1 : -2147483648 ≤ cx * cy) (h2 : cx * cy < 2147483648) (k : ∀ v : Int32, v.toInt = cx * cy → Z l G M d (pc + 1) L (.int v :: st) σ Q) : Z l G M d pc L (.int y :: .int x :: st) σ Q := by
  subst hx; subst hy
  exact z_imul hd (k _ (t32_mul h1 h2))
theorem z_inegT {x : Int32} {cx : Int} (hd : decode M.2.1 pc = .ok (.ineg, 1)) (hx : x.toInt = cx) (h1 : -2147483648 ≤ -cx) (h2 : -cx < 2147483648) (k : ∀ v : Int32, v.toInt = -cx → Z l G M d (pc + 1) L (.int v :: st) σ Q) : Z l G M d pc L (.int x :: st) σ Q := by
  subst hx
  exact z_ineg hd (k _ (t32_neg h1 h2))
theorem z_idivT {x y : Int32} {cx cy : Int} (hd : decode M.2.1 pc = .ok (.idiv, 1)) (hx : x.toInt = cx) (hy : y.toInt = cy) (h1 : 0 < cy) (k : ∀ v : Int32, v.toInt = cx.tdiv cy → Z l G M d (pc + 1) L (.int v :: st) σ Q) : Z l G M d pc L (.int y :: .int x :: st) σ Q := by
  subst hx; subst hy
  exact z_idiv hd (fun e => by rw [e] at h1; exact absurd h1 (by decide)) (k _ (t32_div h1))
theorem z_laddT {x y : Int64} {cx cy : Int} (hd : decode M.2.1 pc = .ok (.ladd, 1)) (hx : x.toInt = cx) (hy : y.toInt = cy) (h1 : -9223372036854775808 ≤ cx + cy) (h2 : cx + cy < 9223372036854775808) (k : ∀ v : Int64, v.toInt = cx + cy → Z l G M d (pc + 1) L (.long v :: st) σ Q) : Z l G M d pc L (.long y :: .long x :: st) σ Q := by
  subst hx; subst hy
  exact z_ladd hd (k _ (t64_add h1 h2))
theorem z_lsubT {x y : Int64} {cx cy : Int} (hd : decode M.2.1 pc = .ok (.lsub, 1)) (hx : x.toInt = cx) (hy : y.toInt = cy) (h1 : -9223372036854775808 ≤ cx - cy) (h2 : cx - cy < 9223372036854775808) (k : ∀ v : Int64, v.toInt = cx - cy → Z l G M d (pc + 1) L (.long v :: st) σ Q) : Z l G M d pc L (.long y :: .long x :: st) σ Q := by
  subst hx; subst hy
  exact z_lsub hd (k _ (t64_sub h1 h2))
theorem z_lmulT {x y : Int64} {cx cy : Int} (hd : decode M.2.1 pc = .ok (.lmul, 1)) (hx : x.toInt = cx) (hy : y.toInt = cy) (h1 : -9223372036854775808 ≤ cx * cy) (h2 : cx * cy < 9223372036854775808) (k : ∀ v : Int64, v.toInt = cx * cy → Z l G M d (pc + 1) L (.long v :: st) σ Q) : Z l G M d pc L (.long y :: .long x :: st) σ Q := by
  subst hx; subst hy
  exact z_lmul hd (k _ (t64_mul h1 h2))
theorem z_lnegT {x : Int64} {cx : Int} (hd : decode M.2.1 pc = .ok (.lneg, 1)) (hx : x.toInt = cx) (h1 : -9223372036854775808 ≤ -cx) (h2 : -cx < 9223372036854775808) (k : ∀ v : Int64, v.toInt = -cx → Z l G M d (pc + 1) L (.long v :: st) σ Q) : Z l G M d pc L (.long x :: st) σ Q := by
  subst hx
  exact z_lneg hd (k _ (t64_neg h1 h2))
theorem z_ldivT {x y : Int64} {cx cy : Int} (hd : decode M.2.1 pc = .ok (.ldiv, 1)) (hx : x.toInt = cx) (hy : y.toInt = cy) (h1 : 0 < cy) (k : ∀ v : Int64, v.toInt = cx.tdiv cy → Z l G M d (pc + 1) L (.long v :: st) σ Q) : Z l G M d pc L (.long y :: .long x :: st) σ Q := by
  subst hx; subst hy
  exact z_ldiv hd (fun e => by rw [e] at h1; exact absurd h1 (by decide)) (k _ (t64_div h1))
theorem z_lremT {x y : Int64} {cx cy : Int} (hd : decode M.2.1 pc = .ok (.lrem, 1)) (hx : x.toInt = cx) (hy : y.toInt = cy) (h1 : 0 < cy) (h0 : 0 ≤ cx) (k : ∀ v : Int64, v.toInt = cx % cy → Z l G M d (pc + 1) L (.long v :: st) σ Q) : Z l G M d pc L (.long y :: .long x :: st) σ Q := by
  subst hx; subst hy
  exact z_lrem hd (fun e => by rw [e] at h1; exact absurd h1 (by decide)) (k _ (t64_rem h1 h0))
theorem z_i2lT {x : Int32} {cx : Int} (hd : decode M.2.1 pc = .ok (.i2l, 1)) (hx : x.toInt = cx) (k : ∀ v : Int64, v.toInt = cx → Z l G M d (pc + 1) L (.long v :: st) σ Q) : Z l G M d pc L (.int x :: st) σ Q := by
  subst hx
  exact z_i2l hd (k _ (Int32.toInt_toInt64 x))
theorem z_l2iT {x : Int64} {cx : Int} (hd : decode M.2.1 pc = .ok (.l2i, 1)) (hx : x.toInt = cx) (h1 : -2147483648 ≤ cx) (h2 : cx < 2147483648) (k : ∀ v : Int32, v.toInt = cx → Z l G M d (pc + 1) L (.int v :: st) σ Q) : Z l G M d pc L (.long x :: st) σ Q := by
  subst hx
  exact z_l2i hd (k _ (by rw [Int64.toInt_toInt32]; exact Int.bmod_eq_of_le_mul_two (by omega) (by omega)))
theorem z_iincT {n : Nat} {j : Int} {x : Int32} {cx : Int} {L' : Int32 → Lc} (hd : decode M.2.1 pc = .ok (.iinc n j, 3)) (hx : L[n]? = some (some (.int x))) (hc : x.toInt = cx) (hj1 : -128 ≤ j) (hj2 : j < 128) (h1 : -2147483648 ≤ cx + j) (h2 : cx + j < 2147483648) (hn : Nat.blt n M.2.2.1 = true) (hok : okI L n = true) (hL : ∀ v, setI L n (.int v) = L' v) (k : ∀ v : Int32, v.toInt = cx + j → Z l G M d (pc + 3) (L' v) st σ Q) : Z l G M d pc L st σ Q := by
  subst hc
  have hj : (Int32.ofInt j).toInt = j := Int32.toInt_ofInt_of_le (by omega) (by omega)
  exact z_iinc hd hx rfl hn hok (hL _) (k _ (by rw [t32_add] <;> rw [hj] <;> omega))
theorem zq_if_eq {x : Int32} {cx : Int} {off : Int} {tgt : Nat} (hd : decode M.2.1 pc = .ok (.ifCond .eq off, 3)) (ht : (pc : Int) + off = (tgt : Int)) (hx : x.toInt = cx) (kt : cx = 0 → Z l G M d tgt L st σ Q) (kf : cx ≠ 0 → Z l G M d (pc + 3) L st σ Q) : Z l G M d pc L (.int x :: st) σ Q := by
  subst hx
  exact z_if_eq hd ht (fun hh => kt (by rw [hh]; rfl)) (fun hh => kf (fun e => hh (Int32.toInt_inj.mp (e.trans rfl))))
theorem zq_icmp_eq {x y : Int32} {cx cy : Int} {off : Int} {tgt : Nat} (hd : decode M.2.1 pc = .ok (.if_icmp .eq off, 3)) (ht : (pc : Int) + off = (tgt : Int)) (hx : x.toInt = cx) (hy : y.toInt = cy) (kt : cx = cy → Z l G M d tgt L st σ Q) (kf : cx ≠ cy → Z l G M d (pc + 3) L st σ Q) : Z l G M d pc L (.int y :: .int x :: st) σ Q := by
  subst hx; subst hy
  exact z_icmp_eq hd ht (fun hh => kt (by rw [hh])) (fun hh => kf (fun e => hh (Int32.toInt_inj.mp (e))))
theorem zq_lc_eq {x y : Int64} {cx cy : Int} {off : Int} {tgt : Nat} (hd0 : decode M.2.1 pc = .ok (.lcmp, 1)) (hd : decode M.2.1 (pc + 1) = .ok (.ifCond .eq off, 3)) (ht : ((pc + 1 : Nat) : Int) + off = (tgt : Int)) (hx : x.toInt = cx) (hy : y.toInt = cy) (kt : cx = cy → Z l G M d tgt L st σ Q) (kf : cx ≠ cy → Z l G M d (pc + 4) L st σ Q) : Z l G M d pc L (.long y :: .long x :: st) σ Q := by
  subst hx; subst hy
  exact z_lc_eq hd0 hd ht (fun hh => kt (by rw [hh])) (fun hh => kf (fun e => hh (Int64.toInt_inj.mp (e))))
theorem zq_if_ne {x : Int32} {cx : Int} {off : Int} {tgt : Nat} (hd : decode M.2.1 pc = .ok (.ifCond .ne off, 3)) (ht : (pc : Int) + off = (tgt : Int)) (hx : x.toInt = cx) (kt : cx ≠ 0 → Z l G M d tgt L st σ Q) (kf : cx = 0 → Z l G M d (pc + 3) L st σ Q) : Z l G M d pc L (.int x :: st) σ Q := by
  subst hx
  exact z_if_ne hd ht (fun hh => kt (fun e => hh (Int32.toInt_inj.mp (e.trans rfl)))) (fun hh => kf (by rw [hh]; rfl))
theorem zq_icmp_ne {x y : Int32} {cx cy : Int} {off : Int} {tgt : Nat} (hd : decode M.2.1 pc = .ok (.if_icmp .ne off, 3)) (ht : (pc : Int) + off = (tgt : Int)) (hx : x.toInt = cx) (hy : y.toInt = cy) (kt : cx ≠ cy → Z l G M d tgt L st σ Q) (kf : cx = cy → Z l G M d (pc + 3) L st σ Q) : Z l G M d pc L (.int y :: .int x :: st) σ Q := by
  subst hx; subst hy
  exact z_icmp_ne hd ht (fun hh => kt (fun e => hh (Int32.toInt_inj.mp (e)))) (fun hh => kf (by rw [hh]))
theorem zq_lc_ne {x y : Int64} {cx cy : Int} {off : Int} {tgt : Nat} (hd0 : decode M.2.1 pc = .ok (.lcmp, 1)) (hd : decode M.2.1 (pc + 1) = .ok (.ifCond .ne off, 3)) (ht : ((pc + 1 : Nat) : Int) + off = (tgt : Int)) (hx : x.toInt = cx) (hy : y.toInt = cy) (kt : cx ≠ cy → Z l G M d tgt L st σ Q) (kf : cx = cy → Z l G M d (pc + 4) L st σ Q) : Z l G M d pc L (.long y :: .long x :: st) σ Q := by
  subst hx; subst hy
  exact z_lc_ne hd0 hd ht (fun hh => kt (fun e => hh (Int64.toInt_inj.mp (e)))) (fun hh => kf (by rw [hh]))
theorem zq_if_lt {x : Int32} {cx : Int} {off : Int} {tgt : Nat} (hd : decode M.2.1 pc = .ok (.ifCond .lt off, 3)) (ht : (pc : Int) + off = (tgt : Int)) (hx : x.toInt = cx) (kt : cx < 0 → Z l G M d tgt L st σ Q) (kf : 0 ≤ cx → Z l G M d (pc + 3) L st σ Q) : Z l G M d pc L (.int x :: st) σ Q := by
  subst hx
  exact z_if_lt hd ht (fun hh => kt (by have := Int32.lt_iff_toInt_lt.mp hh; simpa using this)) (fun hh => kf (by have := mt Int32.lt_iff_toInt_lt.mpr hh; simp at this ⊢; omega))
theorem zq_icmp_lt {x y : Int32} {cx cy : Int} {off : Int} {tgt : Nat} (hd : decode M.2.1 pc = .ok (.if_icmp .lt off, 3)) (ht : (pc : Int) + off = (tgt : Int)) (hx : x.toInt = cx) (hy : y.toInt = cy) (kt : cx < cy → Z l G M d tgt L st σ Q) (kf : cy ≤ cx → Z l G M d (pc + 3) L st σ Q) : Z l G M d pc L (.int y :: .int x :: st) σ Q := by
  subst hx; subst hy
  exact z_icmp_lt hd ht (fun hh => kt (Int32.lt_iff_toInt_lt.mp hh)) (fun hh => kf (by have := mt Int32.lt_iff_toInt_lt.mpr hh; omega))
theorem zq_lc_lt {x y : Int64} {cx cy : Int} {off : Int} {tgt : Nat} (hd0 : decode M.2.1 pc = .ok (.lcmp, 1)) (hd : decode M.2.1 (pc + 1) = .ok (.ifCond .lt off, 3)) (ht : ((pc + 1 : Nat) : Int) + off = (tgt : Int)) (hx : x.toInt = cx) (hy : y.toInt = cy) (kt : cx < cy → Z l G M d tgt L st σ Q) (kf : cy ≤ cx → Z l G M d (pc + 4) L st σ Q) : Z l G M d pc L (.long y :: .long x :: st) σ Q := by
  subst hx; subst hy
  exact z_lc_lt hd0 hd ht (fun hh => kt (Int64.lt_iff_toInt_lt.mp hh)) (fun hh => kf (by have := mt Int64.lt_iff_toInt_lt.mpr hh; omega))
theorem zq_if_ge {x : Int32} {cx : Int} {off : Int} {tgt : Nat} (hd : decode M.2.1 pc = .ok (.ifCond .ge off, 3)) (ht : (pc : Int) + off = (tgt : Int)) (hx : x.toInt = cx) (kt : 0 ≤ cx → Z l G M d tgt L st σ Q) (kf : cx < 0 → Z l G M d (pc + 3) L st σ Q) : Z l G M d pc L (.int x :: st) σ Q := by
  subst hx
  exact z_if_ge hd ht (fun hh => kt (by have := Int32.le_iff_toInt_le.mp hh; simpa using this)) (fun hh => kf (by have := mt Int32.le_iff_toInt_le.mpr hh; simp at this ⊢; omega))
theorem zq_icmp_ge {x y : Int32} {cx cy : Int} {off : Int} {tgt : Nat} (hd : decode M.2.1 pc = .ok (.if_icmp .ge off, 3)) (ht : (pc : Int) + off = (tgt : Int)) (hx : x.toInt = cx) (hy : y.toInt = cy) (kt : cy ≤ cx → Z l G M d tgt L st σ Q) (kf : cx < cy → Z l G M d (pc + 3) L st σ Q) : Z l G M d pc L (.int y :: .int x :: st) σ Q := by
  subst hx; subst hy
  exact z_icmp_ge hd ht (fun hh => kt (Int32.le_iff_toInt_le.mp hh)) (fun hh => kf (by have := mt Int32.le_iff_toInt_le.mpr hh; omega))
theorem zq_lc_ge {x y : Int64} {cx cy : Int} {off : Int} {tgt : Nat} (hd0 : decode M.2.1 pc = .ok (.lcmp, 1)) (hd : decode M.2.1 (pc + 1) = .ok (.ifCond .ge off, 3)) (ht : ((pc + 1 : Nat) : Int) + off = (tgt : Int)) (hx : x.toInt = cx) (hy : y.toInt = cy) (kt : cy ≤ cx → Z l G M d tgt L st σ Q) (kf : cx < cy → Z l G M d (pc + 4) L st σ Q) : Z l G M d pc L (.long y :: .long x :: st) σ Q := by
  subst hx; subst hy
  exact z_lc_ge hd0 hd ht (fun hh => kt (Int64.le_iff_toInt_le.mp hh)) (fun hh => kf (by have := mt Int64.le_iff_toInt_le.mpr hh; omega))
theorem zq_if_gt {x : Int32} {cx : Int} {off : Int} {tgt : Nat} (hd : decode M.2.1 pc = .ok (.ifCond .gt off, 3)) (ht : (pc : Int) + off = (tgt : Int)) (hx : x.toInt = cx) (kt : 0 < cx → Z l G M d tgt L st σ Q) (kf : cx ≤ 0 → Z l G M d (pc + 3) L st σ Q) : Z l G M d pc L (.int x :: st) σ Q := by
  subst hx
  exact z_if_gt hd ht (fun hh => kt (by have := Int32.lt_iff_toInt_lt.mp hh; simpa using this)) (fun hh => kf (by have := mt Int32.lt_iff_toInt_lt.mpr hh; simp at this ⊢; omega))
theorem zq_icmp_gt {x y : Int32} {cx cy : Int} {off : Int} {tgt : Nat} (hd : decode M.2.1 pc = .ok (.if_icmp .gt off, 3)) (ht : (pc : Int) + off = (tgt : Int)) (hx : x.toInt = cx) (hy : y.toInt = cy) (kt : cy < cx → Z l G M d tgt L st σ Q) (kf : cx ≤ cy → Z l G M d (pc + 3) L st σ Q) : Z l G M d pc L (.int y :: .int x :: st) σ Q := by
  subst hx; subst hy
  exact z_icmp_gt hd ht (fun hh => kt (Int32.lt_iff_toInt_lt.mp hh)) (fun hh => kf (by have := mt Int32.lt_iff_toInt_lt.mpr hh; omega))
theorem zq_lc_gt {x y : Int64} {cx cy : Int} {off : Int} {tgt : Nat} (hd0 : decode M.2.1 pc = .ok (.lcmp, 1)) (hd : decode M.2.1 (pc + 1) = .ok (.ifCond .gt off, 3)) (ht : ((pc + 1 : Nat) : Int) + off = (tgt : Int)) (hx : x.toInt = cx) (hy : y.toInt = cy) (kt : cy < cx → Z l G M d tgt L st σ Q) (kf : cx ≤ cy → Z l G M d (pc + 4) L st σ Q) : Z l G M d pc L (.long y :: .long x :: st) σ Q := by
  subst hx; subst hy
  exact z_lc_gt hd0 hd ht (fun hh => kt (Int64.lt_iff_toInt_lt.mp hh)) (fun hh => kf (by have := mt Int64.lt_iff_toInt_lt.mpr hh; omega))
theorem zq_if_le {x : Int32} {cx : Int} {off : Int} {tgt : Nat} (hd : decode M.2.1 pc = .ok (.ifCond .le off, 3)) (ht : (pc : Int) + off = (tgt : Int)) (hx : x.toInt = cx) (kt : cx ≤ 0 → Z l G M d tgt L st σ Q) (kf : 0 < cx → Z l G M d (pc + 3) L st σ Q) : Z l G M d pc L (.int x :: st) σ Q := by
  subst hx
  exact z_if_le hd ht (fun hh => kt (by have := Int32.le_iff_toInt_le.mp hh; simpa using this)) (fun hh => kf (by have := mt Int32.le_iff_toInt_le.mpr hh; simp at this ⊢; omega))
theorem zq_icmp_le {x y : Int32} {cx cy : Int} {off : Int} {tgt : Nat} (hd : decode M.2.1 pc = .ok (.if_icmp .le off, 3)) (ht : (pc : Int) + off = (tgt : Int)) (hx : x.toInt = cx) (hy : y.toInt = cy) (kt : cx ≤ cy → Z l G M d tgt L st σ Q) (kf : cy < cx → Z l G M d (pc + 3) L st σ Q) : Z l G M d pc L (.int y :: .int x :: st) σ Q := by
  subst hx; subst hy
  exact z_icmp_le hd ht (fun hh => kt (Int32.le_iff_toInt_le.mp hh)) (fun hh => kf (by have := mt Int32.le_iff_toInt_le.mpr hh; omega))
theorem zq_lc_le {x y : Int64} {cx cy : Int} {off : Int} {tgt : Nat} (hd0 : decode M.2.1 pc = .ok (.lcmp, 1)) (hd : decode M.2.1 (pc + 1) = .ok (.ifCond .le off, 3)) (ht : ((pc + 1 : Nat) : Int) + off = (tgt : Int)) (hx : x.toInt = cx) (hy : y.toInt = cy) (kt : cx ≤ cy → Z l G M d tgt L st σ Q) (kf : cy < cx → Z l G M d (pc + 4) L st σ Q) : Z l G M d pc L (.long y :: .long x :: st) σ Q := by
  subst hx; subst hy
  exact z_lc_le hd0 hd ht (fun hh => kt (Int64.le_iff_toInt_le.mp hh)) (fun hh => kf (by have := mt Int64.le_iff_toInt_le.mpr hh; omega))
theorem zq_swOut {dflt lo hi : Int} {offs : Array Int} {len : Nat} {x : Int32} {tgt : Nat} (hd : decode M.2.1 pc = .ok (.tableswitch dflt lo hi offs, len)) (h : x.toInt < lo ∨ hi < x.toInt) (ht : (pc : Int) + dflt = (tgt : Int)) (k : Z l G M d tgt L st σ Q) : Z l G M d pc L (.int x :: st) σ Q := z_swOut hd h ht k
theorem zq_swIn {dflt lo hi : Int} {offs : Array Int} {len : Nat} {x : Int32} {c off : Int} {tgt : Nat} (hd : decode M.2.1 pc = .ok (.tableswitch dflt lo hi offs, len)) (hx : x.toInt = c) (h1 : lo ≤ c) (h2 : c ≤ hi) (ho : offs[(c - lo).toNat]? = some off) (ht : (pc : Int) + off = (tgt : Int)) (k : Z l G M d tgt L st σ Q) : Z l G M d pc L (.int x :: st) σ Q := z_swIn hd (by omega) (by omega) (by rw [hx]; exact ho) ht k
theorem z_ialdN {o : Nat} {i : Int32} (j : Nat) (hd : decode M.2.1 pc = .ok (.iaload, 1)) (ho : kd o = 12) (hn : o < 105) (hi : i.toInt = (j : Int)) (hj : j < ln o) (kk : Z l G M d (pc + 1) L (.int (σ.1 o j) :: st) σ Q) : Z l G M d pc L (.int i :: .ref o :: st) σ Q := z_iald hd ho hn (zin_of hi hj) (by rw [zclamp hi]; exact kk)
theorem z_zaldN {o : Nat} {i : Int32} (j : Nat) (hd : decode M.2.1 pc = .ok (.baload, 1)) (ho : kd o = 14) (hn : o < 105) (hi : i.toInt = (j : Int)) (hj : j < ln o) (kk : Z l G M d (pc + 1) L (.int (σ.1 o j) :: st) σ Q) : Z l G M d pc L (.int i :: .ref o :: st) σ Q := z_zald hd ho hn (zin_of hi hj) (by rw [zclamp hi]; exact kk)
theorem z_laldN {o : Nat} {i : Int32} (j : Nat) (hd : decode M.2.1 pc = .ok (.laload, 1)) (ho : kd o = 13) (hn : o < 105) (hi : i.toInt = (j : Int)) (hj : j < ln o) (kk : Z l G M d (pc + 1) L (.long (σ.2 o j) :: st) σ Q) : Z l G M d pc L (.int i :: .ref o :: st) σ Q := z_lald hd ho hn (zin_of hi hj) (by rw [zclamp hi]; exact kk)
theorem z_iastN {o : Nat} {i v : Int32} (j : Nat) (hd : decode M.2.1 pc = .ok (.iastore, 1)) (ho : kd o = 12) (hn : o < 105) (hi : i.toInt = (j : Int)) (hj : j < ln o) (kk : Z l G M d (pc + 1) L st (uI σ o j v) Q) : Z l G M d pc L (.int v :: .int i :: .ref o :: st) σ Q := z_iast hd ho hn (zin_of hi hj) (by rw [zclamp hi]; exact kk)
theorem z_zastN {o : Nat} {i v : Int32} (j : Nat) (hd : decode M.2.1 pc = .ok (.bastore, 1)) (ho : kd o = 14) (hn : o < 105) (hi : i.toInt = (j : Int)) (hj : j < ln o) (hv : v = 0 ∨ v = 1) (kk : Z l G M d (pc + 1) L st (uI σ o j v) Q) : Z l G M d pc L (.int v :: .int i :: .ref o :: st) σ Q := z_zast hd ho hn (zin_of hi hj) hv (by rw [zclamp hi]; exact kk)
theorem z_lastN {o : Nat} {i : Int32} {v : Int64} (j : Nat) (hd : decode M.2.1 pc = .ok (.lastore, 1)) (ho : kd o = 13) (hn : o < 105) (hi : i.toInt = (j : Int)) (hj : j < ln o) (kk : Z l G M d (pc + 1) L st (uJ σ o j v) Q) : Z l G M d pc L (.long v :: .int i :: .ref o :: st) σ Q := z_last hd ho hn (zin_of hi hj) (by rw [zclamp hi]; exact kk)
theorem z_aaldN {o t : Nat} {i : Int32} (j : Nat) (hd : decode M.2.1 pc = .ok (.aaload, 1)) (ho : kd o = 15 ∨ kd o = 16) (hn : o < 105) (hi : i.toInt = (j : Int)) (hj : j < ln o) (hr : rfo o j = t) (kk : Z l G M d (pc + 1) L (.ref t :: st) σ Q) : Z l G M d pc L (.int i :: .ref o :: st) σ Q := z_aald hd ho hn (zin_of hi hj) (by rw [zclamp hi]; exact hr) kk
theorem z_roaldN {o : Nat} {i : Int32} (j : Nat) (hd : decode M.2.1 pc = .ok (.iaload, 1)) (h1 : 105 ≤ o) (h2 : o < 108) (hi : i.toInt = (j : Int)) (hj : j < rol G o) (kk : Z l G M d (pc + 1) L (.int (roc G o j) :: st) σ Q) : Z l G M d pc L (.int i :: .ref o :: st) σ Q := z_roald hd h1 h2 (zin_of hi hj) (by rw [zclamp hi]; exact kk)
/-- the top of the stack gets a name -/
theorem z_top {v : Value} (k : ∀ w : Value, w = v → Z l G M d pc L (w :: st) σ Q) : Z l G M d pc L (v :: st) σ Q := k v rfl
theorem z_topi {v : Int32} (k : ∀ w : Int32, w = v → Z l G M d pc L (.int w :: st) σ Q) : Z l G M d pc L (.int v :: st) σ Q := k v rfl
theorem z_topl {v : Int64} (k : ∀ w : Int64, w = v → Z l G M d pc L (.long w :: st) σ Q) : Z l G M d pc L (.long v :: st) σ Q := k v rfl
theorem kd_plant {i : Nat} : kd (65 + i) = 6 := by
  unfold kd
  have : Nat.ble 65 (65 + i) = true := Nat.ble_eq_true_of_le (by omega)
  rw [this]
theorem kd_bed {b : Nat} (h : b < 8) : kd (49 + b) = 0 := by
  rcases (show b = 0 ∨ b = 1 ∨ b = 2 ∨ b = 3 ∨ b = 4 ∨ b = 5 ∨ b = 6 ∨ b = 7 by omega) with rfl | rfl | rfl | rfl | rfl | rfl | rfl | rfl <;> rfl
theorem kd_items {b : Nat} (h : b < 8) : kd (57 + b) = 13 := by
  rcases (show b = 0 ∨ b = 1 ∨ b = 2 ∨ b = 3 ∨ b = 4 ∨ b = 5 ∨ b = 6 ∨ b = 7 by omega) with rfl | rfl | rfl | rfl | rfl | rfl | rfl | rfl <;> rfl
theorem ln_items {b : Nat} (h : b < 8) : ln (57 + b) = 100 := by
  rcases (show b = 0 ∨ b = 1 ∨ b = 2 ∨ b = 3 ∨ b = 4 ∨ b = 5 ∨ b = 6 ∨ b = 7 by omega) with rfl | rfl | rfl | rfl | rfl | rfl | rfl | rfl <;> rfl
theorem rfo_bed {b : Nat} (h : b < 8) : rfo (49 + b) 0 = 57 + b := by
  rcases (show b = 0 ∨ b = 1 ∨ b = 2 ∨ b = 3 ∨ b = 4 ∨ b = 5 ∨ b = 6 ∨ b = 7 by omega) with rfl | rfl | rfl | rfl | rfl | rfl | rfl | rfl <;> rfl
end ZI
end
section
theorem c_X10_isBelow {l : Launch} {G : Gx} {d : Nat} {σ : Sg} {Q : Option Value → Sg → Prop} {a b : Int32} (ht : 0 ≤ a.toInt ∧ a.toInt < b.toInt → Q (some (.int 1)) σ) (hf : ¬ (0 ≤ a.toInt ∧ a.toInt < b.toInt) → Q (some (.int 0)) σ) : Z l G M_X10_isBelow (d) 0 [some (.int a), some (.int b)] [] σ Q := by
  refine z_sub (L' := [some (.int a), some (.int b)]) ⟨rfl, rfl, trivial⟩ ?_
  refine z_iload_n (pc := 0) dX10_isBelow_0 rfl ?_
  refine zq_if_lt (pc := 1) (tgt := 13) dX10_isBelow_1 rfl rfl (fun h1 => ?_) (fun h1 => ?_)
  · skip
    refine z_iconst (pc := 13) (v := 0) dX10_isBelow_13 (by decide) ?_
    refine z_zret (pc := 14) dX10_isBelow_14 rfl (by decide) ?_
    exact hf (by omega)
  · skip
    refine z_iload_n (pc := 4) dX10_isBelow_4 rfl ?_
    refine z_iload_n (pc := 5) dX10_isBelow_5 rfl ?_
    refine zq_icmp_ge (pc := 6) (tgt := 13) dX10_isBelow_6 rfl rfl rfl (fun h6 => ?_) (fun h6 => ?_)
    · skip
      refine z_iconst (pc := 13) (v := 0) dX10_isBelow_13 (by decide) ?_
      refine z_zret (pc := 14) dX10_isBelow_14 rfl (by decide) ?_
      exact hf (by omega)
    · skip
      refine z_iconst (pc := 9) (v := 1) dX10_isBelow_9 (by decide) ?_
      refine z_goto (pc := 10) (tgt := 14) dX10_isBelow_10 rfl ?_
      refine z_zret (pc := 14) dX10_isBelow_14 rfl (by decide) ?_
      exact ht (by omega)

theorem c_X10_isWithin {l : Launch} {G : Gx} {d : Nat} {σ : Sg} {Q : Option Value → Sg → Prop} {a b : Int64} (hb : 0 ≤ b.toInt) (ht : -b.toInt ≤ a.toInt ∧ a.toInt ≤ b.toInt → Q (some (.int 1)) σ) (hf : ¬ (-b.toInt ≤ a.toInt ∧ a.toInt ≤ b.toInt) → Q (some (.int 0)) σ) : Z l G M_X10_isWithin (d) 0 [some (.long a), none, some (.long b), none] [] σ Q := by
  have hb2 := b.toInt_lt
  refine z_sub (L' := [some (.long a), none, some (.long b), none]) ⟨rfl, rfl, trivial⟩ ?_
  refine z_lload_n (pc := 0) dX10_isWithin_0 rfl ?_
  refine z_lload_n (pc := 1) dX10_isWithin_1 rfl ?_
  refine z_lnegT (pc := 2) dX10_isWithin_2 rfl (by omega) (by omega) (fun v2 e2 => ?_)
  refine zq_lc_lt (pc := 3) (tgt := 17) dX10_isWithin_3 dX10_isWithin_4 rfl rfl rfl (fun h3 => ?_) (fun h3 => ?_)
  · skip
    refine z_iconst (pc := 17) (v := 0) dX10_isWithin_17 (by decide) ?_
    refine z_zret (pc := 18) dX10_isWithin_18 rfl (by decide) ?_
    exact hf (by omega)
  · skip
    refine z_lload_n (pc := 7) dX10_isWithin_7 rfl ?_
    refine z_lload_n (pc := 8) dX10_isWithin_8 rfl ?_
    refine zq_lc_gt (pc := 9) (tgt := 17) dX10_isWithin_9 dX10_isWithin_10 rfl rfl rfl (fun h9 => ?_) (fun h9 => ?_)
    · skip
      refine z_iconst (pc := 17) (v := 0) dX10_isWithin_17 (by decide) ?_
      refine z_zret (pc := 18) dX10_isWithin_18 rfl (by decide) ?_
      exact hf (by omega)
    · skip
      refine z_iconst (pc := 13) (v := 1) dX10_isWithin_13 (by decide) ?_
      refine z_goto (pc := 14) (tgt := 18) dX10_isWithin_14 rfl ?_
      refine z_zret (pc := 18) dX10_isWithin_18 rfl (by decide) ?_
      exact ht (by omega)

theorem c_X10_isInField {l : Launch} {G : Gx} {d : Nat} {σ : Sg} {Q : Option Value → Sg → Prop} {a : Int64} (ht : -300 ≤ a.toInt ∧ a.toInt ≤ 300 → Q (some (.int 1)) σ) (hf : ¬ (-300 ≤ a.toInt ∧ a.toInt ≤ 300) → Q (some (.int 0)) σ) : Z l G M_X10_isInField (d + 1) 0 [some (.long a), none] [] σ Q := by
  refine z_sub (L' := [some (.long a), none]) ⟨rfl, trivial⟩ ?_
  refine z_lload_n (pc := 0) dX10_isInField_0 rfl ?_
  refine z_ldc2 (pc := 1) dX10_isInField_1 kc_X10_327 ?_
  refine z_is2 (pc := 4) dX10_isInField_4 ks_X10_225 rfl rfl ?_
  refine c_X10_isWithin (by decide) (fun q => ?_) (fun q => ?_)
  · skip
    refine z_zret (pc := 7) dX10_isInField_7 rfl (by decide) ?_
    exact ht q
  · skip
    refine z_zret (pc := 7) dX10_isInField_7 rfl (by decide) ?_
    exact hf q

theorem c_X10_isBed {l : Launch} {G : Gx} {d : Nat} {σ : Sg} {Q : Option Value → Sg → Prop} {a : Int32} (ht : 0 ≤ a.toInt ∧ a.toInt < 8 → Q (some (.int 1)) σ) (hf : ¬ (0 ≤ a.toInt ∧ a.toInt < 8) → Q (some (.int 0)) σ) : Z l G M_X10_isBed (d + 1) 0 [some (.int a)] [] σ Q := by
  refine z_sub (L' := [some (.int a)]) ⟨rfl, trivial⟩ ?_
  refine z_iload_n (pc := 0) dX10_isBed_0 rfl ?_
  refine z_bipush (pc := 1) (v := 8) dX10_isBed_1 (by decide) ?_
  refine z_is2 (pc := 3) dX10_isBed_3 ks_X10_88 rfl rfl ?_
  refine c_X10_isBelow (fun q => ?_) (fun q => ?_)
  · skip
    refine z_zret (pc := 6) dX10_isBed_6 rfl (by decide) ?_
    exact ht q
  · skip
    refine z_zret (pc := 6) dX10_isBed_6 rfl (by decide) ?_
    exact hf q

theorem c_X10_found {l : Launch} {G : Gx} {d : Nat} {σ : Sg} {Q : Option Value → Sg → Prop} {a : Int32} (h0 : 0 ≤ a.toInt) (h1 : a.toInt < 10) (h : ∀ r : Int32, r.toInt = -1000010 - a.toInt → Q (some (.int r)) (uI σ 0 12 a)) : Z l G M_X10_found (d) 0 [some (.ref 0), some (.int a)] [] σ Q := by
  refine z_sub (L' := [some (.ref 0), some (.int a)]) ⟨rfl, rfl, trivial⟩ ?_
  refine z_aload_n (pc := 0) dX10_found_0 rfl ?_
  refine z_iload_n (pc := 1) dX10_found_1 rfl ?_
  refine z_putI (pc := 2) dX10_found_2 fk_X10_121 rfl (by decide) (by decide) (by decide) ?_
  refine z_ldcw (pc := 5) dX10_found_5 kc_X10_313 ?_
  refine z_iload_n (pc := 8) dX10_found_8 rfl ?_
  refine z_isubT (pc := 9) (cx := -1000010) dX10_found_9 (by decide) rfl (by omega) (by omega) (fun v9 e9 => ?_)
  refine z_iret (pc := 10) dX10_found_10 rfl ?_
  exact h _ (by assumption)

theorem c_X10_done {l : Launch} {G : Gx} {d : Nat} {σ : Sg} {Q : Option Value → Sg → Prop} {a : Int32} (h : Q (some (.int a)) (uI σ 0 12 0)) : Z l G M_X10_done (d) 0 [some (.ref 0), some (.int a)] [] σ Q := by
  refine z_sub (L' := [some (.ref 0), some (.int a)]) ⟨rfl, rfl, trivial⟩ ?_
  refine z_aload_n (pc := 0) dX10_done_0 rfl ?_
  refine z_iconst (pc := 1) (v := 0) dX10_done_1 (by decide) ?_
  refine z_putI (pc := 2) dX10_done_2 fk_X10_121 rfl (by decide) (by decide) (by decide) ?_
  refine z_iload_n (pc := 5) dX10_done_5 rfl ?_
  refine z_iret (pc := 6) dX10_done_6 rfl ?_
  exact h

theorem c_X10_isGiven {l : Launch} {G : Gx} {d : Nat} {σ : Sg} {Q : Option Value → Sg → Prop} {a : Int32} (ht : 0 ≤ a.toInt ∧ a.toInt < (σ.1 0 11).toInt → Q (some (.int 1)) σ) (hf : ¬ (0 ≤ a.toInt ∧ a.toInt < (σ.1 0 11).toInt) → Q (some (.int 0)) σ) : Z l G M_X10_isGiven (d + 1) 0 [some (.ref 0), some (.int a)] [] σ Q := by
  refine z_sub (L' := [some (.ref 0), some (.int a)]) ⟨rfl, rfl, trivial⟩ ?_
  refine z_iload_n (pc := 0) dX10_isGiven_0 rfl ?_
  refine z_aload_n (pc := 1) dX10_isGiven_1 rfl ?_
  refine z_getI (pc := 2) dX10_isGiven_2 fk_X10_137 rfl (by decide) (by decide) (by decide) ?_
  refine z_is2 (pc := 5) dX10_isGiven_5 ks_X10_88 rfl rfl ?_
  refine c_X10_isBelow (fun q => ?_) (fun q => ?_)
  · skip
    refine z_zret (pc := 8) dX10_isGiven_8 rfl (by decide) ?_
    exact ht q
  · skip
    refine z_zret (pc := 8) dX10_isGiven_8 rfl (by decide) ?_
    exact hf q

theorem c_X0_has {l : Launch} {G : Gx} {d : Nat} {σ : Sg} {Q : Option Value → Sg → Prop} {o : Nat} {a n : Int32} (ho : kd o = 0) (hn : o < 105) (hs : 0 ≤ (σ.1 o 3).toInt) (ht : 0 ≤ a.toInt ∧ 0 ≤ n.toInt ∧ a.toInt + n.toInt ≤ (σ.1 o 3).toInt → Q (some (.int 1)) σ) (hf : ¬ (0 ≤ a.toInt ∧ 0 ≤ n.toInt ∧ a.toInt + n.toInt ≤ (σ.1 o 3).toInt) → Q (some (.int 0)) σ) : Z l G M_X0_has (d) 0 [some (.ref o), some (.int a), some (.int n)] [] σ Q := by
  have hs2 := (σ.1 o 3).toInt_lt
  refine z_sub (L' := [some (.ref o), some (.int a), some (.int n)]) ⟨rfl, rfl, rfl, trivial⟩ ?_
  refine z_iload_n (pc := 0) dX0_has_0 rfl ?_
  refine zq_if_lt (pc := 1) (tgt := 30) dX0_has_1 rfl rfl (fun h1 => ?_) (fun h1 => ?_)
  · skip
    refine z_iconst (pc := 30) (v := 0) dX0_has_30 (by decide) ?_
    refine z_zret (pc := 31) dX0_has_31 rfl (by decide) ?_
    exact hf (by omega)
  · skip
    refine z_iload_n (pc := 4) dX0_has_4 rfl ?_
    refine zq_if_lt (pc := 5) (tgt := 30) dX0_has_5 rfl rfl (fun h5 => ?_) (fun h5 => ?_)
    · skip
      refine z_iconst (pc := 30) (v := 0) dX0_has_30 (by decide) ?_
      refine z_zret (pc := 31) dX0_has_31 rfl (by decide) ?_
      exact hf (by omega)
    · skip
      refine z_iload_n (pc := 8) dX0_has_8 rfl ?_
      refine z_aload_n (pc := 9) dX0_has_9 rfl ?_
      refine z_getI (pc := 10) dX0_has_10 fk_X0_23 ho hn (by decide) (by decide) ?_
      refine zq_icmp_gt (pc := 13) (tgt := 30) dX0_has_13 rfl rfl rfl (fun h13 => ?_) (fun h13 => ?_)
      · skip
        refine z_iconst (pc := 30) (v := 0) dX0_has_30 (by decide) ?_
        refine z_zret (pc := 31) dX0_has_31 rfl (by decide) ?_
        exact hf (by omega)
      · skip
        refine z_iload_n (pc := 16) dX0_has_16 rfl ?_
        refine z_aload_n (pc := 17) dX0_has_17 rfl ?_
        refine z_getI (pc := 18) dX0_has_18 fk_X0_23 ho hn (by decide) (by decide) ?_
        refine z_iload_n (pc := 21) dX0_has_21 rfl ?_
        refine z_isubT (pc := 22) dX0_has_22 rfl rfl (by omega) (by omega) (fun v22 e22 => ?_)
        refine zq_icmp_gt (pc := 23) (tgt := 30) dX0_has_23 rfl rfl rfl (fun h23 => ?_) (fun h23 => ?_)
        · skip
          refine z_iconst (pc := 30) (v := 0) dX0_has_30 (by decide) ?_
          refine z_zret (pc := 31) dX0_has_31 rfl (by decide) ?_
          exact hf (by omega)
        · skip
          refine z_iconst (pc := 26) (v := 1) dX0_has_26 (by decide) ?_
          refine z_goto (pc := 27) (tgt := 31) dX0_has_27 rfl ?_
          refine z_zret (pc := 31) dX0_has_31 rfl (by decide) ?_
          exact ht (by omega)

/-- a long's lowest bits, as many as a lane has -/
def nrw (lane : Int) (v : Int64) : Int64 := if lane = 0 then v.toInt32.toInt16.toInt32.toInt64 else if lane = 1 then v.toInt32.toInt64 else v

theorem c_X0_narrowed {l : Launch} {G : Gx} {d : Nat} {σ : Sg} {Q : Option Value → Sg → Prop} {o : Nat} {v : Int64} (ho : kd o = 0) (hn : o < 105) (h : Q (some (.long (nrw (σ.1 o 2).toInt v))) σ) : Z l G M_X0_narrowed (d) 0 [some (.ref o), some (.long v), none] [] σ Q := by
  refine z_sub (L' := [some (.ref o), some (.long v), none]) ⟨rfl, rfl, trivial⟩ ?_
  refine z_aload_n (pc := 0) dX0_narrowed_0 rfl ?_
  refine z_getI (pc := 1) dX0_narrowed_1 fk_X0_19 ho hn (by decide) (by decide) ?_
  refine zq_if_ne (pc := 4) (tgt := 12) dX0_narrowed_4 rfl rfl (fun h4 => ?_) (fun h4 => ?_)
  · skip
    refine z_aload_n (pc := 12) dX0_narrowed_12 rfl ?_
    refine z_getI (pc := 13) dX0_narrowed_13 fk_X0_19 ho hn (by decide) (by decide) ?_
    refine z_iconst (pc := 16) (v := 1) dX0_narrowed_16 (by decide) ?_
    refine zq_icmp_ne (pc := 17) (cy := 1) (tgt := 26) dX0_narrowed_17 rfl rfl (by decide) (fun h17 => ?_) (fun h17 => ?_)
    · skip
      refine z_lload_n (pc := 26) dX0_narrowed_26 rfl ?_
      refine z_lret (pc := 27) dX0_narrowed_27 rfl ?_
      first | (rw [show nrw (σ.1 o 2).toInt v = v.toInt32.toInt16.toInt32.toInt64 from if_pos (by omega)] at h; exact h) | (rw [show nrw (σ.1 o 2).toInt v = v.toInt32.toInt64 from (if_neg (by omega)).trans (if_pos (by omega))] at h; exact h) | (rw [show nrw (σ.1 o 2).toInt v = v from (if_neg (by omega)).trans (if_neg (by omega))] at h; exact h)
    · skip
      refine z_lload_n (pc := 20) dX0_narrowed_20 rfl ?_
      refine z_l2i (pc := 21) dX0_narrowed_21 ?_
      refine z_i2l (pc := 22) dX0_narrowed_22 ?_
      refine z_goto (pc := 23) (tgt := 27) dX0_narrowed_23 rfl ?_
      refine z_lret (pc := 27) dX0_narrowed_27 rfl ?_
      first | (rw [show nrw (σ.1 o 2).toInt v = v.toInt32.toInt16.toInt32.toInt64 from if_pos (by omega)] at h; exact h) | (rw [show nrw (σ.1 o 2).toInt v = v.toInt32.toInt64 from (if_neg (by omega)).trans (if_pos (by omega))] at h; exact h) | (rw [show nrw (σ.1 o 2).toInt v = v from (if_neg (by omega)).trans (if_neg (by omega))] at h; exact h)
  · skip
    refine z_lload_n (pc := 7) dX0_narrowed_7 rfl ?_
    refine z_l2i (pc := 8) dX0_narrowed_8 ?_
    refine z_i2s (pc := 9) dX0_narrowed_9 ?_
    refine z_i2l (pc := 10) dX0_narrowed_10 ?_
    refine z_lret (pc := 11) dX0_narrowed_11 rfl ?_
    first | (rw [show nrw (σ.1 o 2).toInt v = v.toInt32.toInt16.toInt32.toInt64 from if_pos (by omega)] at h; exact h) | (rw [show nrw (σ.1 o 2).toInt v = v.toInt32.toInt64 from (if_neg (by omega)).trans (if_pos (by omega))] at h; exact h) | (rw [show nrw (σ.1 o 2).toInt v = v from (if_neg (by omega)).trans (if_neg (by omega))] at h; exact h)

/-- the first n longs of object o become 0 -/
def zJ (σ : Sg) (o n : Nat) : Sg := (σ.1, fun a b => if a = o then (if b < n then 0 else σ.2 a b) else σ.2 a b)
theorem zJ_step (σ : Sg) (o n : Nat) : uJ (zJ σ o n) o n 0 = zJ σ o (n + 1) := by
  unfold uJ zJ
  refine Prod.ext rfl ?_
  funext a b
  dsimp only
  by_cases h : a = o
  · simp only [h, if_true]
    by_cases h1 : b = n
    · subst h1; simp
    · by_cases h2 : b < n
      · simp [h1, h2, Nat.lt_succ_of_lt h2]
      · have : ¬ b < n + 1 := by omega
        simp [h1, h2, this]
  · simp [h]
theorem zJ_0 (σ : Sg) (o : Nat) : zJ σ o 0 = σ := by
  unfold zJ
  refine Prod.ext rfl ?_
  funext a b
  simp


theorem c_X0_lay_loop {l : Launch} {G : Gx} {d : Nat} {σ : Sg} {Q : Option Value → Sg → Prop} {b : Nat} {a n : Int32} (hb : b < 8) (h : Q none (zJ σ (57 + b) 100)) : ∀ (k i : Nat) (x : Int32), x.toInt = (i : Int) → i ≤ 100 → 100 - i < k → Z l G M_X0_lay d 17 [some (.ref (49 + b)), some (.int a), some (.int n), some (.int x)] [] (zJ σ (57 + b) i) Q := by
  intro k
  induction k with
  | zero => intro i x hx hi hk; omega
  | succ k ih =>
  intro i x hx hi hk
  refine z_iload_n (pc := 17) dX0_lay_17 rfl ?_
  refine z_bipush (pc := 18) (v := 100) dX0_lay_18 (by decide) ?_
  refine zq_icmp_ge (pc := 20) (cy := 100) (tgt := 36) dX0_lay_20 rfl rfl (by decide) (fun h20 => ?_) (fun h20 => ?_)
  · skip
    refine z_vret (pc := 36) dX0_lay_36 rfl ?_
    rw [show i = 100 by omega]; exact h
  · skip
    refine z_aload_n (pc := 23) dX0_lay_23 rfl ?_
    refine z_getR (pc := 24) (t := (57 + b)) dX0_lay_24 fk_X0_9 (kd_bed hb) (by omega) (by decide) (by decide) (rfo_bed hb) ?_
    refine z_iload_n (pc := 27) dX0_lay_27 rfl ?_
    refine z_lconst (pc := 28) (v := 0) dX0_lay_28 (by decide) ?_
    refine z_lastN (pc := 29) i dX0_lay_29 (kd_items hb) (by omega) hx (by rw [ln_items hb]; omega) ?_
    refine z_iincT (pc := 30) dX0_lay_30 rfl rfl (by decide) (by decide) (by omega) (by omega) rfl rfl (fun v => by dsimp only [setI, setL, List.set]) (fun v30 e30 => ?_)
    refine z_goto (pc := 33) (tgt := 17) dX0_lay_33 rfl ?_
    rw [zJ_step]
    exact ih (i + 1) v30 (by omega) (by omega) (by omega)

theorem c_X0_lay {l : Launch} {G : Gx} {d : Nat} {σ : Sg} {Q : Option Value → Sg → Prop} {b : Nat} {a n : Int32} (hb : b < 8) (h : Q none (zJ (uI (uI (uI σ (49 + b) 1 1) (49 + b) 2 a) (49 + b) 3 n) (57 + b) 100)) : Z l G M_X0_lay (d) 0 [some (.ref (49 + b)), some (.int a), some (.int n)] [] σ Q := by
  refine z_sub (L' := [some (.ref (49 + b)), some (.int a), some (.int n), none]) ⟨rfl, rfl, rfl, trivial⟩ ?_
  refine z_aload_n (pc := 0) dX0_lay_0 rfl ?_
  refine z_iconst (pc := 1) (v := 1) dX0_lay_1 (by decide) ?_
  refine z_putB (pc := 2) dX0_lay_2 fk_X0_15 (kd_bed hb) (by omega) (by decide) (by decide) (by decide) ?_
  refine z_aload_n (pc := 5) dX0_lay_5 rfl ?_
  refine z_iload_n (pc := 6) dX0_lay_6 rfl ?_
  refine z_putI (pc := 7) dX0_lay_7 fk_X0_19 (kd_bed hb) (by omega) (by decide) (by decide) ?_
  refine z_aload_n (pc := 10) dX0_lay_10 rfl ?_
  refine z_iload_n (pc := 11) dX0_lay_11 rfl ?_
  refine z_putI (pc := 12) dX0_lay_12 fk_X0_23 (kd_bed hb) (by omega) (by decide) (by decide) ?_
  refine z_iconst (pc := 15) (v := 0) dX0_lay_15 (by decide) ?_
  refine z_istore_n (pc := 16) dX0_lay_16 rfl rfl (by dsimp only [setI, setL, List.set]) ?_
  have hz := zJ_0 (uI (uI (uI σ (49 + b) 1 1) (49 + b) 2 a) (49 + b) 3 n) (57 + b)
  have := c_X0_lay_loop (l := l) (G := G) (d := d) (σ := uI (uI (uI σ (49 + b) 1 1) (49 + b) 2 a) (49 + b) 3 n) (a := a) (n := n) hb h 101 0 0 (by decide) (by omega) (by omega)
  rw [hz] at this
  exact this
end
section
/-! the abstract state, and how each side holds it -/
/-- a plant: x, y, kind, colour, away -/
abbrev Pt : Type := Int32 × Int32 × Int32 × Int32 × Bool
/-- a bed: 0 missing or its lane and 1 more; how many items; the items -/
abbrev Bd : Type := Int32 × Int32 × (Nat → Int64)
/-- numbers given, plants; beds; status; the trace; the line; the latest change (its plant, whether it is new, what it was) -/
abbrev Ab : Type := (Nat × (Nat → Pt)) × (Nat → Bd) × Int32 × (Nat × (Nat → Int32)) × (Int32 × Int32 × Int32) × Option (Nat × Bool × Pt)
def redOf (k c : Int) : Int := if k = 1 then 1 else if k = 3 then 2 else if k = 4 ∧ c = 1 then 1 else 0
def blueOf (k c : Int) : Int := if k = 2 then 1 else if k = 4 ∧ c = 2 then 1 else 0
def lentOf (k c : Int) : Int := if redOf k c + blueOf k c = 0 then 1 else redOf k c + blueOf k c
def allOf (k c : Int) : Int := if k = 3 then 1 + lentOf k c else lentOf k c
def ptOk (p : Pt) : Prop := -300 ≤ p.1.toInt ∧ p.1.toInt ≤ 300 ∧ -300 ≤ p.2.1.toInt ∧ p.2.1.toInt ≤ 300 ∧ 0 ≤ p.2.2.1.toInt ∧ p.2.2.1.toInt < 5 ∧ 0 ≤ p.2.2.2.1.toInt ∧ p.2.2.2.1.toInt < 3
def bdOk (b : Bd) : Prop := 0 ≤ b.1.toInt ∧ b.1.toInt ≤ 3 ∧ (b.1 ≠ 0 → 0 ≤ b.2.1.toInt ∧ b.2.1.toInt ≤ 100)
def lnOk (a : Int32) : Prop := -1000000 ≤ a.toInt ∧ a.toInt ≤ 1000000
def unOk (n : Nat) (pt : Nat → Pt) : Option (Nat × Bool × Pt) → Prop
  | none => True
  | some (u, nw, p) => u < n ∧ (nw = true → u + 1 = n) ∧ (nw = false → ptOk p ∧ p.2.2.1 = (pt u).2.2.1)
def abOk (a : Ab) : Prop := a.1.1 ≤ 40 ∧ (∀ i, i < a.1.1 → ptOk (a.1.2 i)) ∧ (∀ b, b < 8 → bdOk (a.2.1 b)) ∧ a.2.2.2.1.1 ≤ 16 ∧ lnOk a.2.2.2.2.1.1 ∧ lnOk a.2.2.2.2.1.2.1 ∧ lnOk a.2.2.2.2.1.2.2 ∧ unOk a.1.1 a.1.2 a.2.2.2.2.2
/-- the class's object o holds a plant -/
def plC (σ : Sg) (o : Nat) (p : Pt) : Prop := σ.1 o 0 = p.1 ∧ σ.1 o 1 = p.2.1 ∧ σ.1 o 2 = p.2.2.1 ∧ σ.1 o 3 = p.2.2.2.1 ∧ (σ.1 o 4).toInt = redOf p.2.2.1.toInt p.2.2.2.1.toInt ∧ (σ.1 o 5).toInt = blueOf p.2.2.1.toInt p.2.2.2.1.toInt ∧ (σ.1 o 6).toInt = allOf p.2.2.1.toInt p.2.2.2.1.toInt ∧ σ.1 o 7 = (if p.2.2.2.2 then 0 else 1)
def rcP (σ : Sg) (n : Nat) (pt : Nat → Pt) : Prop := (σ.1 0 11).toInt = (n : Int) ∧ ∀ i, i < n → plC σ (65 + i) (pt i)
def bdC (σ : Sg) (b : Nat) (q : Bd) : Prop := σ.1 (49 + b) 1 = (if q.1 = 0 then 0 else 1) ∧ (q.1 ≠ 0 → (σ.1 (49 + b) 2).toInt = q.1.toInt - 1 ∧ σ.1 (49 + b) 3 = q.2.1 ∧ ∀ j : Nat, (j : Int) < q.2.1.toInt → σ.2 (57 + b) j = q.2.2 j)
def rcB (σ : Sg) (bd : Nat → Bd) : Prop := ∀ b, b < 8 → bdC σ b (bd b)
def rcT (σ : Sg) (t : Nat × (Nat → Int32)) : Prop := (σ.1 6 1).toInt = (t.1 : Int) ∧ (∀ j, j < t.1 → σ.1 7 j = t.2 j) ∧ σ.1 8 1 = 0
def rcL (σ : Sg) (t : Int32 × Int32 × Int32) : Prop := σ.1 10 0 = t.1 ∧ σ.1 10 1 = t.2.1 ∧ σ.1 10 2 = t.2.2
def rcU (σ : Sg) (n : Nat) : Option (Nat × Bool × Pt) → Prop
  | none => σ.1 4 1 = 0
  | some (u, nw, p) => σ.1 4 1 = 1 ∧ (σ.1 4 2).toInt = (u : Int) ∧ (σ.1 4 3).toInt = (if nw then (n : Int) - 1 else n) ∧ (nw = false → plC σ 5 p)
/-- the model's side -/
def rmP (σ : Sg) (n : Nat) (pt : Nat → Pt) : Prop := (σ.1 1 0).toInt = (n : Int) ∧ ∀ i, i < n → σ.1 31 i = (pt i).1 ∧ σ.1 32 i = (pt i).2.1 ∧ σ.1 33 i = (pt i).2.2.1 ∧ σ.1 34 i = (pt i).2.2.2.1 ∧ σ.1 35 i = (if (pt i).2.2.2.2 then 1 else 0)
def rmB (σ : Sg) (bd : Nat → Bd) : Prop := ∀ b, b < 8 → σ.1 36 b = (bd b).1 ∧ ((bd b).1 ≠ 0 → σ.1 37 b = (bd b).2.1 ∧ ∀ j : Nat, (j : Int) < (bd b).2.1.toInt → σ.2 38 (100 * b + j) = (bd b).2.2 j)
def rmT (σ : Sg) (t : Nat × (Nat → Int32)) : Prop := (σ.1 1 18).toInt = (t.1 : Int) ∧ (∀ j, j < t.1 → σ.1 40 j = t.2 j) ∧ σ.1 1 19 = 0
def rmL (σ : Sg) (t : Int32 × Int32 × Int32) : Prop := (σ.2 1 20).toInt = t.1.toInt ∧ (σ.2 1 21).toInt = t.2.1.toInt ∧ (σ.2 1 22).toInt = t.2.2.toInt
def rmU (σ : Sg) : Option (Nat × Bool × Pt) → Prop
  | none => (σ.1 1 6).toInt < 0
  | some (u, nw, p) => (σ.1 1 6).toInt = (u : Int) ∧ σ.1 1 7 = (if nw then 1 else 0) ∧ (nw = false → σ.1 1 8 = p.1 ∧ σ.1 1 9 = p.2.1 ∧ σ.1 1 10 = p.2.2.2.1 ∧ σ.1 1 11 = (if p.2.2.2.2 then 1 else 0))
def rM (σ : Sg) (a : Ab) : Prop := rmP σ a.1.1 a.1.2 ∧ rmB σ a.2.1 ∧ σ.1 1 16 = a.2.2.1 ∧ rmT σ a.2.2.2.1 ∧ rmL σ a.2.2.2.2.1 ∧ rmU σ a.2.2.2.2.2
/-- the model's objects -/
def isM (o : Nat) : Bool := o == 1 || (Nat.ble 31 o && Nat.ble o 48)
/-- the two stores agree on the model's objects; on all others -/
def eqM (σ τ : Sg) : Prop := ∀ o, isM o = true → τ.1 o = σ.1 o ∧ τ.2 o = σ.2 o
def eqC (σ τ : Sg) : Prop := ∀ o, isM o = false → τ.1 o = σ.1 o ∧ τ.2 o = σ.2 o
theorem eqM_rf {σ : Sg} : eqM σ σ := fun _ _ => ⟨rfl, rfl⟩
theorem eqC_rf {σ : Sg} : eqC σ σ := fun _ _ => ⟨rfl, rfl⟩
theorem eqM_tr {σ τ υ : Sg} (h : eqM σ τ) (g : eqM τ υ) : eqM σ υ := fun o ho => ⟨(g o ho).1.trans (h o ho).1, (g o ho).2.trans (h o ho).2⟩
theorem eqC_tr {σ τ υ : Sg} (h : eqC σ τ) (g : eqC τ υ) : eqC σ υ := fun o ho => ⟨(g o ho).1.trans (h o ho).1, (g o ho).2.trans (h o ho).2⟩
theorem eqM_uI {σ τ : Sg} {o k : Nat} {v : Int32} (h : eqM σ τ) (ho : isM o = false) : eqM σ (uI τ o k v) := fun a ha => by
  have hne : a ≠ o := fun e => by rw [e, ho] at ha; cases ha
  exact ⟨(by funext b; exact uI_no hne : (uI τ o k v).1 a = τ.1 a).trans (h a ha).1, (h a ha).2⟩
theorem eqM_uJ {σ τ : Sg} {o k : Nat} {v : Int64} (h : eqM σ τ) (ho : isM o = false) : eqM σ (uJ τ o k v) := fun a ha => by
  have hne : a ≠ o := fun e => by rw [e, ho] at ha; cases ha
  exact ⟨(h a ha).1, (by funext b; exact uJ_no hne : (uJ τ o k v).2 a = τ.2 a).trans (h a ha).2⟩
theorem eqC_uI {σ τ : Sg} {o k : Nat} {v : Int32} (h : eqC σ τ) (ho : isM o = true) : eqC σ (uI τ o k v) := fun a ha => by
  have hne : a ≠ o := fun e => by rw [e, ho] at ha; cases ha
  exact ⟨(by funext b; exact uI_no hne : (uI τ o k v).1 a = τ.1 a).trans (h a ha).1, (h a ha).2⟩
theorem eqC_uJ {σ τ : Sg} {o k : Nat} {v : Int64} (h : eqC σ τ) (ho : isM o = true) : eqC σ (uJ τ o k v) := fun a ha => by
  have hne : a ≠ o := fun e => by rw [e, ho] at ha; cases ha
  exact ⟨(h a ha).1, (by funext b; exact uJ_no hne : (uJ τ o k v).2 a = τ.2 a).trans (h a ha).2⟩
theorem isM_bed {b : Nat} (h : b < 8) : isM (49 + b) = false := by
  rcases (show b = 0 ∨ b = 1 ∨ b = 2 ∨ b = 3 ∨ b = 4 ∨ b = 5 ∨ b = 6 ∨ b = 7 by omega) with rfl | rfl | rfl | rfl | rfl | rfl | rfl | rfl <;> rfl
theorem isM_big {o : Nat} (h : 49 ≤ o) : isM o = false := by
  unfold isM
  have h1 : (o == 1) = false := by simp; omega
  have h2 : Nat.ble o 48 = false := by
    cases hb : Nat.ble o 48 with
    | false => rfl
    | true => have := Nat.le_of_ble_eq_true hb; omega
  simp [h1, h2]
theorem eqM_zJ {σ τ : Sg} {o n : Nat} (h : eqM σ τ) (ho : isM o = false) : eqM σ (zJ τ o n) := fun a ha => by
  have hne : a ≠ o := fun e => by rw [e, ho] at ha; cases ha
  exact ⟨(h a ha).1, (by funext b; simp [zJ, hne] : (zJ τ o n).2 a = τ.2 a).trans (h a ha).2⟩
/-- the model holds the same if its objects are the same -/
theorem rM_cong {σ τ : Sg} {a : Ab} (h : eqM σ τ) (hr : rM σ a) : rM τ a := by
  have h1 := h 1 rfl
  have e := fun o ho => (h o ho)
  obtain ⟨r1, r2, r3, r4, r5, r6⟩ := hr
  refine ⟨⟨by rw [h1.1]; exact r1.1, fun i hi => ?_⟩, fun b hb => ?_, by rw [h1.1]; exact r3, ⟨by rw [h1.1]; exact r4.1, fun j hj => by rw [(h 40 rfl).1]; exact r4.2.1 j hj, by rw [h1.1]; exact r4.2.2⟩, ⟨by rw [h1.2]; exact r5.1, by rw [h1.2]; exact r5.2.1, by rw [h1.2]; exact r5.2.2⟩, ?_⟩
  · rw [(h 31 rfl).1, (h 32 rfl).1, (h 33 rfl).1, (h 34 rfl).1, (h 35 rfl).1]; exact r1.2 i hi
  · rw [(h 36 rfl).1, (h 37 rfl).1, (h 38 rfl).2]; exact r2 b hb
  · cases hu : a.2.2.2.2.2 with
    | none => rw [hu] at r6; show (τ.1 1 6).toInt < 0; rw [h1.1]; exact r6
    | some q =>
      rw [hu] at r6
      obtain ⟨u, nw, p⟩ := q
      show (τ.1 1 6).toInt = _ ∧ τ.1 1 7 = _ ∧ (_ → τ.1 1 8 = _ ∧ τ.1 1 9 = _ ∧ τ.1 1 10 = _ ∧ τ.1 1 11 = _)
      rw [h1.1]; exact r6
end
section
/-! what the class keeps worked out -/
def prs (n : Nat) (pt : Nat → Pt) : List Nat := (List.range n).filter (fun i => !(pt i).2.2.2.2)
def stl (n : Nat) (pt : Nat → Pt) : List Pt := (prs n pt).map pt
/-- the stand holds the plants that are there -/
def okStand (σ : Sg) (n : Nat) (pt : Nat → Pt) : Prop := (σ.1 11 7).toInt = ((prs n pt).length : Int) ∧ ∀ (j i : Nat), (prs n pt)[j]? = some i → (σ.1 12 j).toInt = (i : Int) ∧ σ.1 13 j = (pt i).1 ∧ σ.1 14 j = (pt i).2.1 ∧ (σ.1 15 j).toInt = redOf (pt i).2.2.1.toInt (pt i).2.2.2.1.toInt ∧ (σ.1 16 j).toInt = blueOf (pt i).2.2.1.toInt (pt i).2.2.2.1.toInt ∧ (σ.1 17 j).toInt = allOf (pt i).2.2.1.toInt (pt i).2.2.2.1.toInt
def okLines (_σ : Sg) (_S : List Pt) : Prop := True
def okLayers (_σ : Sg) (_S : List Pt) : Prop := True
def okDepths (_σ : Sg) (_S : List Pt) : Prop := True
def okStrips (_σ : Sg) (_S : List Pt) : Prop := True
def CA (σ : Sg) (n : Nat) (pt : Nat → Pt) : Prop := (σ.1 11 6 ≠ 0 → okStand σ n pt) ∧ (σ.1 18 7 ≠ 0 → okLines σ (stl n pt)) ∧ (σ.1 24 1 ≠ 0 → okLayers σ (stl n pt)) ∧ (σ.1 26 2 ≠ 0 → okDepths σ (stl n pt)) ∧ (σ.1 29 1 ≠ 0 → okStrips σ (stl n pt))
theorem CA_cong {σ τ : Sg} {n : Nat} {pt : Nat → Pt} (h : ∀ o, 11 ≤ o → o ≤ 30 → τ.1 o = σ.1 o ∧ τ.2 o = σ.2 o) (hc : CA σ n pt) : CA τ n pt := by
  obtain ⟨c1, c2, c3, c4, c5⟩ := hc
  unfold CA okStand
  rw [(h 11 (by omega) (by omega)).1, (h 12 (by omega) (by omega)).1, (h 13 (by omega) (by omega)).1, (h 14 (by omega) (by omega)).1, (h 15 (by omega) (by omega)).1, (h 16 (by omega) (by omega)).1, (h 17 (by omega) (by omega)).1, (h 18 (by omega) (by omega)).1, (h 24 (by omega) (by omega)).1, (h 26 (by omega) (by omega)).1, (h 29 (by omega) (by omega)).1]
  exact ⟨c1, c2, c3, c4, c5⟩
theorem CA_none {σ : Sg} {n : Nat} {pt : Nat → Pt} (h1 : σ.1 11 6 = 0) (h2 : σ.1 18 7 = 0) (h3 : σ.1 24 1 = 0) (h4 : σ.1 26 2 = 0) (h5 : σ.1 29 1 = 0) : CA σ n pt := ⟨fun h => absurd h1 h, fun h => absurd h2 h, fun h => absurd h3 h, fun h => absurd h4 h, fun h => absurd h5 h⟩
/-- the class's side -/
def rC (σ : Sg) (a : Ab) : Prop := rcP σ a.1.1 a.1.2 ∧ rcB σ a.2.1 ∧ σ.1 0 12 = a.2.2.1 ∧ rcT σ a.2.2.2.1 ∧ rcL σ a.2.2.2.2.1 ∧ rcU σ a.1.1 a.2.2.2.2.2 ∧ CA σ a.1.1 a.1.2
theorem plC_cong {σ τ : Sg} {o : Nat} {p : Pt} (h : τ.1 o = σ.1 o) (hp : plC σ o p) : plC τ o p := by
  unfold plC
  rw [h]
  exact hp
theorem rcP_cong {σ τ : Sg} {n : Nat} {pt : Nat → Pt} (h0 : τ.1 0 11 = σ.1 0 11) (h : ∀ i, i < n → τ.1 (65 + i) = σ.1 (65 + i)) (hr : rcP σ n pt) : rcP τ n pt := ⟨by rw [h0]; exact hr.1, fun i hi => plC_cong (h i hi) (hr.2 i hi)⟩
theorem rcB_cong {σ τ : Sg} {bd : Nat → Bd} (h : ∀ o, 49 ≤ o → o < 65 → τ.1 o = σ.1 o ∧ τ.2 o = σ.2 o) (hr : rcB σ bd) : rcB τ bd := fun b hb => by
  unfold bdC
  rw [(h (49 + b) (by omega) (by omega)).1, (h (57 + b) (by omega) (by omega)).2]
  exact hr b hb
theorem rcT_cong {σ τ : Sg} {t : Nat × (Nat → Int32)} (h : ∀ o, 6 ≤ o → o ≤ 8 → τ.1 o = σ.1 o) (hr : rcT σ t) : rcT τ t := by
  unfold rcT
  rw [h 6 (by omega) (by omega), h 7 (by omega) (by omega), h 8 (by omega) (by omega)]
  exact hr
theorem rcL_cong {σ τ : Sg} {t : Int32 × Int32 × Int32} (h : τ.1 10 = σ.1 10) (hr : rcL σ t) : rcL τ t := by
  unfold rcL
  rw [h]
  exact hr
theorem rcU_cong {σ τ : Sg} {n : Nat} {u : Option (Nat × Bool × Pt)} (h4 : τ.1 4 = σ.1 4) (h5 : τ.1 5 = σ.1 5) (hr : rcU σ n u) : rcU τ n u := by
  cases u with
  | none => show τ.1 4 1 = 0; rw [h4]; exact hr
  | some q =>
    obtain ⟨u, nw, p⟩ := q
    show τ.1 4 1 = 1 ∧ (τ.1 4 2).toInt = _ ∧ (τ.1 4 3).toInt = _ ∧ (_ → plC τ 5 p)
    rw [h4]
    exact ⟨hr.1, hr.2.1, hr.2.2.1, fun h => plC_cong h5 (hr.2.2.2 h)⟩
/-- only the status and some beds change -/
theorem rC_of {σ τ : Sg} {a : Ab} {bd : Nat → Bd} {f : Int32} (hr : rC σ a) (h0 : τ.1 0 11 = σ.1 0 11) (h : ∀ o, o ≠ 0 → (o < 49 ∨ 65 ≤ o) → isM o = false → τ.1 o = σ.1 o ∧ τ.2 o = σ.2 o) (hb : rcB τ bd) (hf : τ.1 0 12 = f) : rC τ (a.1, bd, f, a.2.2.2) := by
  obtain ⟨r1, r2, r3, r4, r5, r6, r7⟩ := hr
  refine ⟨rcP_cong h0 (fun i _ => (h _ (by omega) (by omega) (isM_big (by omega))).1) r1, hb, hf, rcT_cong (fun o h1 h2 => (h o (by omega) (by omega) ?_).1) r4, rcL_cong (h 10 (by omega) (by omega) rfl).1 r5, rcU_cong (h 4 (by omega) (by omega) rfl).1 (h 5 (by omega) (by omega) rfl).1 r6, CA_cong (fun o h1 h2 => h o (by omega) (by omega) ?_) r7⟩
  · rcases (show o = 6 ∨ o = 7 ∨ o = 8 by omega) with rfl | rfl | rfl <;> rfl
  · rcases (show o = 11 ∨ o = 12 ∨ o = 13 ∨ o = 14 ∨ o = 15 ∨ o = 16 ∨ o = 17 ∨ o = 18 ∨ o = 19 ∨ o = 20 ∨ o = 21 ∨ o = 22 ∨ o = 23 ∨ o = 24 ∨ o = 25 ∨ o = 26 ∨ o = 27 ∨ o = 28 ∨ o = 29 ∨ o = 30 by omega) with rfl | rfl | rfl | rfl | rfl | rfl | rfl | rfl | rfl | rfl | rfl | rfl | rfl | rfl | rfl | rfl | rfl | rfl | rfl | rfl <;> rfl
end
section
/-! what the calls on beds answer and do -/
theorem uI_row {σ : Sg} {o k : Nat} {v : Int32} {a : Nat} (h : a ≠ o) : (uI σ o k v).1 a = σ.1 a := by funext b; exact uI_no h
theorem uJ_row {σ : Sg} {o k : Nat} {v : Int64} {a : Nat} (h : a ≠ o) : (uJ σ o k v).2 a = σ.2 a := by funext b; exact uJ_no h
theorem zJ_1 {σ : Sg} {o n : Nat} : (zJ σ o n).1 = σ.1 := rfl
theorem zJ_row {σ : Sg} {o n a : Nat} (h : a ≠ o) : (zJ σ o n).2 a = σ.2 a := by funext b; simp [zJ, h]
theorem zJ_in {σ : Sg} {o n j : Nat} (h : j < n) : (zJ σ o n).2 o j = 0 := by simp [zJ, h]
theorem cpJ_1 {σ : Sg} {a sp b dp n : Nat} : (cpJ σ a sp b dp n).1 = σ.1 := rfl
theorem cpJ_row {σ : Sg} {a sp b dp n o : Nat} (h : o ≠ b) : (cpJ σ a sp b dp n).2 o = σ.2 o := by simp [cpJ, h]
theorem cpJ_at {σ : Sg} {a sp b dp n : Nat} : (cpJ σ a sp b dp n).2 b = va_cpy (σ.2 a) (σ.2 b) sp dp n := by simp [cpJ]
theorem eqM_cpJ {σ τ : Sg} {a sp b dp n : Nat} (h : eqM σ τ) (ho : isM b = false) : eqM σ (cpJ τ a sp b dp n) := fun x hx => by
  have hne : x ≠ b := fun e => by rw [e, ho] at hx; cases hx
  exact ⟨(h x hx).1, (cpJ_row hne).trans (h x hx).2⟩
def stat (a : Ab) (f : Int32) : Ab := (a.1, a.2.1, f, a.2.2.2)
def bedTo (a : Ab) (b : Nat) (q : Bd) : Ab := (a.1, va_up a.2.1 b q, 0, a.2.2.2)
/-- only the status changes -/
theorem rC_stat {σ : Sg} {a : Ab} {f : Int32} (h : rC σ a) : rC (uI σ 0 12 f) (stat a f) := by
  refine rC_of h (uI_nk (by omega)) (fun o h0 _ _ => ⟨uI_row h0, rfl⟩) (rcB_cong (fun o h1 h2 => ⟨uI_row (by omega), rfl⟩) h.2.1) (uI_eq _ _ _ _)
theorem rC_bed {σ τ : Sg} {a : Ab} {b : Nat} {q : Bd} (h : rC σ a) (hb : b < 8) (h1 : τ.1 0 11 = σ.1 0 11) (h2 : ∀ o, o ≠ 0 → o ≠ 49 + b → o ≠ 57 + b → τ.1 o = σ.1 o ∧ τ.2 o = σ.2 o) (h3 : bdC τ b q) (h4 : τ.1 0 12 = 0) : rC τ (bedTo a b q) := by
  refine rC_of h h1 (fun o h0 hr _ => h2 o h0 (by omega) (by omega)) (fun b' hb' => ?_) h4
  by_cases e : b' = b
  · subst e; simp only [va_up, if_true]; exact h3
  · simp only [va_up, if_neg e]
    unfold bdC
    rw [(h2 (49 + b') (by omega) (by omega) (by omega)).1, (h2 (57 + b') (by omega) (by omega) (by omega)).2]
    exact h.2.1 b' hb'
def sBed (a : Ab) (b l n : Int32) : Int × Ab :=
  if ¬ (0 ≤ b.toInt ∧ b.toInt < 8 ∧ 0 ≤ l.toInt ∧ l.toInt < 3 ∧ n.toInt ≤ 100) then (-1000001, a)
  else if n.toInt < 0 then (-1000014, stat a 4)
  else (n.toInt, bedTo a b.toInt.toNat (l + 1, n, fun _ => 0))
theorem sBed_1 {a : Ab} {b l n : Int32} (h : ¬ (0 ≤ b.toInt ∧ b.toInt < 8 ∧ 0 ≤ l.toInt ∧ l.toInt < 3 ∧ n.toInt ≤ 100)) : sBed a b l n = (-1000001, a) := if_pos h
theorem sBed_2 {a : Ab} {b l n : Int32} (h : 0 ≤ b.toInt ∧ b.toInt < 8 ∧ 0 ≤ l.toInt ∧ l.toInt < 3) (h2 : n.toInt < 0) : sBed a b l n = (-1000014, stat a 4) := (if_neg (by omega)).trans (if_pos h2)
theorem sBed_3 {a : Ab} {b l n : Int32} {i : Nat} (h : 0 ≤ l.toInt ∧ l.toInt < 3) (h2 : 0 ≤ n.toInt ∧ n.toInt ≤ 100) (hi : i < 8) (hb : b.toInt = (i : Int)) : sBed a b l n = (n.toInt, bedTo a i (l + 1, n, fun _ => 0)) := by
  unfold sBed
  rw [if_neg (by omega), if_neg (by omega)]
  congr 2
  omega
def sSet (a : Ab) (b i : Int32) (v : Int64) : Int × Ab :=
  if ¬ (0 ≤ b.toInt ∧ b.toInt < 8) then (-1000001, a)
  else if (a.2.1 b.toInt.toNat).1 = 0 then (-1000011, stat a 1)
  else if ¬ (0 ≤ i.toInt ∧ i.toInt < (a.2.1 b.toInt.toNat).2.1.toInt) then (-1000012, stat a 2)
  else ((nrw ((a.2.1 b.toInt.toNat).1.toInt - 1) v).toInt, bedTo a b.toInt.toNat ((a.2.1 b.toInt.toNat).1, (a.2.1 b.toInt.toNat).2.1, vp_updL (a.2.1 b.toInt.toNat).2.2 i.toInt.toNat (nrw ((a.2.1 b.toInt.toNat).1.toInt - 1) v)))
theorem sSet_1 {a : Ab} {b i : Int32} {v : Int64} (h : ¬ (0 ≤ b.toInt ∧ b.toInt < 8)) : sSet a b i v = (-1000001, a) := if_pos h
theorem sSet_2 {a : Ab} {b i : Int32} {v : Int64} {k : Nat} (hk : k < 8) (hb : b.toInt = (k : Int)) (h : (a.2.1 k).1 = 0) : sSet a b i v = (-1000011, stat a 1) := by
  have e : b.toInt.toNat = k := by omega
  unfold sSet
  rw [e, if_neg (by omega), if_pos h]
theorem sSet_3 {a : Ab} {b i : Int32} {v : Int64} {k : Nat} (hk : k < 8) (hb : b.toInt = (k : Int)) (h : (a.2.1 k).1 ≠ 0) (h2 : ¬ (0 ≤ i.toInt ∧ i.toInt < (a.2.1 k).2.1.toInt)) : sSet a b i v = (-1000012, stat a 2) := by
  have e : b.toInt.toNat = k := by omega
  unfold sSet
  rw [e, if_neg (by omega), if_neg h, if_pos h2]
theorem sSet_4 {a : Ab} {b i : Int32} {v : Int64} {k j : Nat} (hk : k < 8) (hb : b.toInt = (k : Int)) (h : (a.2.1 k).1 ≠ 0) (hj : i.toInt = (j : Int)) (h2 : (j : Int) < (a.2.1 k).2.1.toInt) : sSet a b i v = ((nrw ((a.2.1 k).1.toInt - 1) v).toInt, bedTo a k ((a.2.1 k).1, (a.2.1 k).2.1, vp_updL (a.2.1 k).2.2 j (nrw ((a.2.1 k).1.toInt - 1) v))) := by
  have e : b.toInt.toNat = k := by omega
  have e2 : i.toInt.toNat = j := by omega
  unfold sSet
  rw [e, e2, if_neg (by omega), if_neg h, if_neg (by omega)]
def sDrop (a : Ab) (b : Int32) : Int × Ab :=
  if ¬ (0 ≤ b.toInt ∧ b.toInt < 8) then (-1000001, a)
  else if (a.2.1 b.toInt.toNat).1 = 0 then (-1000011, stat a 1)
  else ((a.2.1 b.toInt.toNat).2.1.toInt, bedTo a b.toInt.toNat (0, 0, fun _ => 0))
theorem sDrop_1 {a : Ab} {b : Int32} (h : ¬ (0 ≤ b.toInt ∧ b.toInt < 8)) : sDrop a b = (-1000001, a) := if_pos h
theorem sDrop_2 {a : Ab} {b : Int32} {k : Nat} (hk : k < 8) (hb : b.toInt = (k : Int)) (h : (a.2.1 k).1 = 0) : sDrop a b = (-1000011, stat a 1) := by
  have e : b.toInt.toNat = k := by omega
  unfold sDrop
  rw [e, if_neg (by omega), if_pos h]
theorem sDrop_3 {a : Ab} {b : Int32} {k : Nat} (hk : k < 8) (hb : b.toInt = (k : Int)) (h : (a.2.1 k).1 ≠ 0) : sDrop a b = ((a.2.1 k).2.1.toInt, bedTo a k (0, 0, fun _ => 0)) := by
  have e : b.toInt.toNat = k := by omega
  unfold sDrop
  rw [e, if_neg (by omega), if_neg h]
def sCopy (a : Ab) (p i q j n : Int32) : Int × Ab :=
  if ¬ (0 ≤ p.toInt ∧ p.toInt < 8 ∧ 0 ≤ q.toInt ∧ q.toInt < 8) then (-1000001, a)
  else if (a.2.1 p.toInt.toNat).1 = 0 ∨ (a.2.1 q.toInt.toNat).1 = 0 then (-1000011, stat a 1)
  else if (a.2.1 p.toInt.toNat).1 ≠ (a.2.1 q.toInt.toNat).1 then (-1000015, stat a 5)
  else if ¬ (0 ≤ i.toInt ∧ 0 ≤ j.toInt ∧ 0 ≤ n.toInt ∧ i.toInt + n.toInt ≤ (a.2.1 p.toInt.toNat).2.1.toInt ∧ j.toInt + n.toInt ≤ (a.2.1 q.toInt.toNat).2.1.toInt) then (-1000012, stat a 2)
  else (n.toInt, bedTo a q.toInt.toNat ((a.2.1 q.toInt.toNat).1, (a.2.1 q.toInt.toNat).2.1, va_cpy (a.2.1 p.toInt.toNat).2.2 (a.2.1 q.toInt.toNat).2.2 i.toInt.toNat j.toInt.toNat n.toInt.toNat))
theorem sCopy_1 {a : Ab} {p i q j n : Int32} (h : ¬ (0 ≤ p.toInt ∧ p.toInt < 8 ∧ 0 ≤ q.toInt ∧ q.toInt < 8)) : sCopy a p i q j n = (-1000001, a) := if_pos h
theorem sCopy_2 {a : Ab} {p i q j n : Int32} {k m : Nat} (hk : k < 8) (hm : m < 8) (hp : p.toInt = (k : Int)) (hq : q.toInt = (m : Int)) (h : (a.2.1 k).1 = 0 ∨ (a.2.1 m).1 = 0) : sCopy a p i q j n = (-1000011, stat a 1) := by
  have e1 : p.toInt.toNat = k := by omega
  have e2 : q.toInt.toNat = m := by omega
  unfold sCopy
  rw [e1, e2, if_neg (by omega), if_pos h]
theorem sCopy_3 {a : Ab} {p i q j n : Int32} {k m : Nat} (hk : k < 8) (hm : m < 8) (hp : p.toInt = (k : Int)) (hq : q.toInt = (m : Int)) (h : ¬ ((a.2.1 k).1 = 0 ∨ (a.2.1 m).1 = 0)) (h2 : (a.2.1 k).1 ≠ (a.2.1 m).1) : sCopy a p i q j n = (-1000015, stat a 5) := by
  have e1 : p.toInt.toNat = k := by omega
  have e2 : q.toInt.toNat = m := by omega
  unfold sCopy
  rw [e1, e2, if_neg (by omega), if_neg h, if_pos h2]
theorem sCopy_4 {a : Ab} {p i q j n : Int32} {k m : Nat} (hk : k < 8) (hm : m < 8) (hp : p.toInt = (k : Int)) (hq : q.toInt = (m : Int)) (h : ¬ ((a.2.1 k).1 = 0 ∨ (a.2.1 m).1 = 0)) (h2 : (a.2.1 k).1 = (a.2.1 m).1) (h3 : ¬ (0 ≤ i.toInt ∧ 0 ≤ j.toInt ∧ 0 ≤ n.toInt ∧ i.toInt + n.toInt ≤ (a.2.1 k).2.1.toInt ∧ j.toInt + n.toInt ≤ (a.2.1 m).2.1.toInt)) : sCopy a p i q j n = (-1000012, stat a 2) := by
  have e1 : p.toInt.toNat = k := by omega
  have e2 : q.toInt.toNat = m := by omega
  unfold sCopy
  rw [e1, e2, if_neg (by omega), if_neg h, if_neg (fun z => z h2), if_pos h3]
theorem sCopy_5 {a : Ab} {p i q j n : Int32} {k m i' j' n' : Nat} (hk : k < 8) (hm : m < 8) (hp : p.toInt = (k : Int)) (hq : q.toInt = (m : Int)) (h : ¬ ((a.2.1 k).1 = 0 ∨ (a.2.1 m).1 = 0)) (h2 : (a.2.1 k).1 = (a.2.1 m).1) (hi : i.toInt = (i' : Int)) (hj : j.toInt = (j' : Int)) (hn : n.toInt = (n' : Int)) (h3 : (i' : Int) + n' ≤ (a.2.1 k).2.1.toInt) (h4 : (j' : Int) + n' ≤ (a.2.1 m).2.1.toInt) : sCopy a p i q j n = (n.toInt, bedTo a m ((a.2.1 m).1, (a.2.1 m).2.1, va_cpy (a.2.1 k).2.2 (a.2.1 m).2.2 i' j' n')) := by
  have e1 : p.toInt.toNat = k := by omega
  have e2 : q.toInt.toNat = m := by omega
  have e3 : i.toInt.toNat = i' := by omega
  have e4 : j.toInt.toNat = j' := by omega
  have e5 : n.toInt.toNat = n' := by omega
  unfold sCopy
  rw [e1, e2, e3, e4, e5, if_neg (by omega), if_neg h, if_neg (fun z => z h2), if_neg (by omega)]
end
section
theorem bd_new {σ : Sg} {b : Nat} {l n : Int32} (hb : b < 8) (h0 : 0 ≤ l.toInt) (h1 : l.toInt < 3) (h2 : n.toInt ≤ 100) : bdC (uI (zJ (uI (uI (uI σ (49 + b) 1 1) (49 + b) 2 l) (49 + b) 3 n) (57 + b) 100) 0 12 0) b (l + 1, n, fun _ => 0) := by
  have e : (l + 1).toInt = l.toInt + 1 := t32_add (y := 1) (by show _ ≤ l.toInt + 1; omega) (by show l.toInt + 1 < _; omega)
  have hne : ¬ (l + 1 = 0) := fun h => by rw [h] at e; have : (0 : Int32).toInt = 0 := rfl; omega
  refine ⟨?_, fun _ => ⟨?_, ?_, fun j hj => ?_⟩⟩
  · rw [if_neg hne]
    simp (disch := omega) only [uI_row, uI_2, uI_nk, uI_no, uI_eq, zJ_1, zJ_row, uJ_1, uJ_row, cpJ_1, cpJ_row]
  · rw [e]
    simp (disch := omega) only [uI_row, uI_2, uI_nk, uI_no, uI_eq, zJ_1, zJ_row, uJ_1, uJ_row, cpJ_1, cpJ_row]
    omega
  · simp (disch := omega) only [uI_row, uI_2, uI_nk, uI_no, uI_eq, zJ_1, zJ_row, uJ_1, uJ_row, cpJ_1, cpJ_row]
  · simp (disch := omega) only [uI_row, uI_2, uI_nk, uI_no, uI_eq, zJ_1, zJ_row, uJ_1, uJ_row, cpJ_1, cpJ_row]
    exact zJ_in (by have : (j : Int) < n.toInt := hj; omega)

theorem c_X10_bed {l : Launch} {G : Gx} {d : Nat} {σ : Sg} {Q : Option Value → Sg → Prop} {a : Ab} {x1 x2 x3 : Int32} (hr : rC σ a) (hk : abOk a) (h : ∀ (r : Int32) (τ : Sg), r.toInt = (sBed a x1 x2 x3).1 → rC τ (sBed a x1 x2 x3).2 → eqM σ τ → Q (some (.int r)) τ) : Z l G M_X10_bed (d + 2) 0 [some (.ref 0), some (.int x1), some (.int x2), some (.int x3)] [] σ Q := by
  refine z_sub (L' := [some (.ref 0), some (.int x1), some (.int x2), some (.int x3)]) ⟨rfl, rfl, rfl, rfl, trivial⟩ ?_
  refine z_iload_n (pc := 0) dX10_bed_0 rfl ?_
  refine z_is1 (pc := 1) dX10_bed_1 ks_X10_84 rfl rfl ?_
  refine c_X10_isBed (fun q1 => ?_) (fun q1 => ?_)
  · skip
    refine z_if_eq (pc := 4) (tgt := 21) dX10_bed_4 rfl (fun hc => absurd hc (by decide)) (fun _ => ?_)
    refine z_iload_n (pc := 7) dX10_bed_7 rfl ?_
    refine z_iconst (pc := 8) (v := 3) dX10_bed_8 (by decide) ?_
    refine z_is2 (pc := 9) dX10_bed_9 ks_X10_88 rfl rfl ?_
    refine c_X10_isBelow (b := 3) (fun q9 => ?_) (fun q9 => ?_)
    · skip
      refine z_if_eq (pc := 12) (tgt := 21) dX10_bed_12 rfl (fun hc => absurd hc (by decide)) (fun _ => ?_)
      refine z_iload_n (pc := 15) dX10_bed_15 rfl ?_
      refine z_bipush (pc := 16) (v := 100) dX10_bed_16 (by decide) ?_
      refine zq_icmp_le (pc := 18) (cy := 100) (tgt := 24) dX10_bed_18 rfl rfl (by decide) (fun h18 => ?_) (fun h18 => ?_)
      · skip
        refine z_iload_n (pc := 24) dX10_bed_24 rfl ?_
        refine zq_if_ge (pc := 25) (tgt := 34) dX10_bed_25 rfl rfl (fun h25 => ?_) (fun h25 => ?_)
        · skip
          obtain ⟨b, hb, hbe⟩ : ∃ b : Nat, b < 8 ∧ x1.toInt = (b : Int) := ⟨x1.toInt.toNat, by omega, by omega⟩
          refine z_aload_n (pc := 34) dX10_bed_34 rfl ?_
          refine z_getR (pc := 35) (t := 2) dX10_bed_35 fk_X10_11 rfl (by decide) (by decide) (by decide) rfl ?_
          refine z_iload_n (pc := 38) dX10_bed_38 rfl ?_
          refine z_aaldN (pc := 39) b (t := (49 + b)) dX10_bed_39 (Or.inl rfl) (by decide) hbe (by show _ < 8; omega) rfl ?_
          refine z_iload_n (pc := 40) dX10_bed_40 rfl ?_
          refine z_iload_n (pc := 41) dX10_bed_41 rfl ?_
          refine z_iv2 (pc := 42) dX10_bed_42 kv_X10_97 (kd_bed hb) (by omega) (by decide) rfl rfl ?_
          refine c_X0_lay hb ?_
          refine z_aload_n (pc := 45) dX10_bed_45 rfl ?_
          refine z_iload_n (pc := 46) dX10_bed_46 rfl ?_
          refine z_iv1 (pc := 47) dX10_bed_47 kv_X10_101 rfl (by decide) (by decide) rfl rfl ?_
          refine c_X10_done ?_
          refine z_iret (pc := 50) dX10_bed_50 rfl ?_
          have h3 : (3 : Int32).toInt = 3 := rfl
          have e := sBed_3 (a := a) (b := x1) (l := x2) (n := x3) (i := b) (by omega) (by omega) hb hbe
          refine h _ _ (by rw [e]) (by
            rw [e]
            refine rC_bed hr hb ?_ (fun o h0 h1 h2 => ?_) (bd_new hb (by omega) (by omega) (by omega)) (uI_eq _ _ _ _)
            · simp (disch := omega) only [uI_row, uI_2, uI_nk, uI_no, uI_eq, zJ_1, zJ_row, uJ_1, uJ_row, cpJ_1, cpJ_row]
            · constructor <;> simp (disch := omega) only [uI_row, uI_2, uI_nk, uI_no, uI_eq, zJ_1, zJ_row, uJ_1, uJ_row, cpJ_1, cpJ_row]) (eqM_uI (eqM_zJ (eqM_uI (eqM_uI (eqM_uI eqM_rf (isM_bed hb)) (isM_bed hb)) (isM_bed hb)) (isM_big (by omega))) rfl)
        · skip
          refine z_aload_n (pc := 28) dX10_bed_28 rfl ?_
          refine z_iconst (pc := 29) (v := 4) dX10_bed_29 (by decide) ?_
          refine z_iv1 (pc := 30) dX10_bed_30 kv_X10_93 rfl (by decide) (by decide) rfl rfl ?_
          refine c_X10_found (by decide) (by decide) (fun r er => ?_)
          refine z_iret (pc := 33) dX10_bed_33 rfl ?_
          have h3 : (3 : Int32).toInt = 3 := rfl
          have e := sBed_2 (a := a) (b := x1) (l := x2) (n := x3) (by omega) (by omega)
          exact h r _ (by rw [e, er]; rfl) (by rw [e]; exact rC_stat hr) (eqM_uI eqM_rf rfl)
      · skip
        refine z_ldc (pc := 21) dX10_bed_21 kc_X10_92 ?_
        refine z_iret (pc := 23) dX10_bed_23 rfl ?_
        have h3 : (3 : Int32).toInt = 3 := rfl
        have e := sBed_1 (a := a) (b := x1) (l := x2) (n := x3) (by omega)
        exact h _ _ (by rw [e]; rfl) (by rw [e]; exact hr) eqM_rf
    · skip
      refine z_if_eq (pc := 12) (tgt := 21) dX10_bed_12 rfl (fun _ => ?_) (fun hc => absurd hc (by decide))
      refine z_ldc (pc := 21) dX10_bed_21 kc_X10_92 ?_
      refine z_iret (pc := 23) dX10_bed_23 rfl ?_
      have h3 : (3 : Int32).toInt = 3 := rfl
      have e := sBed_1 (a := a) (b := x1) (l := x2) (n := x3) (by omega)
      exact h _ _ (by rw [e]; rfl) (by rw [e]; exact hr) eqM_rf
  · skip
    refine z_if_eq (pc := 4) (tgt := 21) dX10_bed_4 rfl (fun _ => ?_) (fun hc => absurd hc (by decide))
    refine z_ldc (pc := 21) dX10_bed_21 kc_X10_92 ?_
    refine z_iret (pc := 23) dX10_bed_23 rfl ?_
    have h3 : (3 : Int32).toInt = 3 := rfl
    have e := sBed_1 (a := a) (b := x1) (l := x2) (n := x3) (by omega)
    exact h _ _ (by rw [e]; rfl) (by rw [e]; exact hr) eqM_rf

theorem lane_no {σ : Sg} {b : Nat} {q : Bd} (h : bdC σ b q) (h0 : (σ.1 (49 + b) 1).toInt = 0) : q.1 = 0 := by
  by_cases hq : q.1 = 0
  · exact hq
  · rw [h.1, if_neg hq] at h0; exact absurd h0 (by decide)
theorem lane_yes {σ : Sg} {b : Nat} {q : Bd} (h : bdC σ b q) (h0 : (σ.1 (49 + b) 1).toInt ≠ 0) : q.1 ≠ 0 := fun hq => by
  rw [h.1, if_pos hq] at h0; exact h0 (by decide)

theorem c_X10_set {l : Launch} {G : Gx} {d : Nat} {σ : Sg} {Q : Option Value → Sg → Prop} {a : Ab} {x1 x2 : Int32} {x3 : Int64} (hr : rC σ a) (hk : abOk a) (h : ∀ (r : Int64) (τ : Sg), r.toInt = (sSet a x1 x2 x3).1 → rC τ (sSet a x1 x2 x3).2 → eqM σ τ → Q (some (.long r)) τ) : Z l G M_X10_set (d + 2) 0 [some (.ref 0), some (.int x1), some (.int x2), some (.long x3), none] [] σ Q := by
  refine z_sub (L' := [some (.ref 0), some (.int x1), some (.int x2), some (.long x3), none, none]) ⟨rfl, rfl, rfl, rfl, trivial⟩ ?_
  refine z_iload_n (pc := 0) dX10_set_0 rfl ?_
  refine z_is1 (pc := 1) dX10_set_1 ks_X10_84 rfl rfl ?_
  refine c_X10_isBed (fun q1 => ?_) (fun q1 => ?_)
  · skip
    refine z_if_ne (pc := 4) (tgt := 11) dX10_set_4 rfl (fun _ => ?_) (fun hc => absurd hc (by decide))
    obtain ⟨b, hb, hbe⟩ : ∃ b : Nat, b < 8 ∧ x1.toInt = (b : Int) := ⟨x1.toInt.toNat, by omega, by omega⟩
    refine z_aload_n (pc := 11) dX10_set_11 rfl ?_
    refine z_getR (pc := 12) (t := 2) dX10_set_12 fk_X10_11 rfl (by decide) (by decide) (by decide) rfl ?_
    refine z_iload_n (pc := 15) dX10_set_15 rfl ?_
    refine z_aaldN (pc := 16) b (t := (49 + b)) dX10_set_16 (Or.inl rfl) (by decide) hbe (by show _ < 8; omega) rfl ?_
    refine z_astore (pc := 17) dX10_set_17 rfl rfl (by dsimp only [setI, setL, List.set]) ?_
    refine z_aload (pc := 19) dX10_set_19 rfl ?_
    refine z_getI (pc := 21) dX10_set_21 fk_X10_106 (kd_bed hb) (by omega) (by decide) (by decide) ?_
    refine zq_if_ne (pc := 24) (tgt := 34) dX10_set_24 rfl rfl (fun h24 => ?_) (fun h24 => ?_)
    · skip
      have hq := lane_yes (hr.2.1 b hb) h24
      obtain ⟨hB2, hB3, hB4⟩ := (hr.2.1 b hb).2 hq
      have hBk2 := (hk.2.2.1 b hb).2.2 hq
      have e3 : (σ.1 (49 + b) 3).toInt = (a.2.1 b).2.1.toInt := by rw [hB3]
      refine z_aload (pc := 34) dX10_set_34 rfl ?_
      refine z_iload_n (pc := 36) dX10_set_36 rfl ?_
      refine z_iconst (pc := 37) (v := 1) dX10_set_37 (by decide) ?_
      refine z_iv2 (pc := 38) dX10_set_38 kv_X10_110 (kd_bed hb) (by omega) (by decide) rfl rfl ?_
      refine c_X0_has (kd_bed hb) (by omega) (by omega) (fun q38 => ?_) (fun q38 => ?_)
      · skip
        refine z_if_ne (pc := 41) (tgt := 51) dX10_set_41 rfl (fun _ => ?_) (fun hc => absurd hc (by decide))
        have h1 : (1 : Int32).toInt = 1 := rfl
        obtain ⟨j, hj, hje⟩ : ∃ j : Nat, (j : Int) < (a.2.1 b).2.1.toInt ∧ x2.toInt = (j : Int) := ⟨x2.toInt.toNat, by omega, by omega⟩
        refine z_aload (pc := 51) dX10_set_51 rfl ?_
        refine z_getR (pc := 53) (t := (57 + b)) dX10_set_53 fk_X10_113 (kd_bed hb) (by omega) (by decide) (by decide) (rfo_bed hb) ?_
        refine z_iload_n (pc := 56) dX10_set_56 rfl ?_
        refine z_aload (pc := 57) dX10_set_57 rfl ?_
        refine z_lload_n (pc := 59) dX10_set_59 rfl ?_
        refine z_iv1 (pc := 60) dX10_set_60 kv_X10_117 (kd_bed hb) (by omega) (by decide) rfl rfl ?_
        refine c_X0_narrowed (kd_bed hb) (by omega) ?_
        refine z_lastN (pc := 63) j dX10_set_63 (kd_items hb) (by omega) hje (by rw [ln_items hb]; omega) ?_
        refine z_aload_n (pc := 64) dX10_set_64 rfl ?_
        refine z_iconst (pc := 65) (v := 0) dX10_set_65 (by decide) ?_
        refine z_putI (pc := 66) dX10_set_66 fk_X10_121 rfl (by decide) (by decide) (by decide) ?_
        refine z_aload (pc := 69) dX10_set_69 rfl ?_
        refine z_getR (pc := 71) (t := (57 + b)) dX10_set_71 fk_X10_113 (kd_bed hb) (by omega) (by decide) (by decide) (rfo_bed hb) ?_
        refine z_iload_n (pc := 74) dX10_set_74 rfl ?_
        refine z_laldN (pc := 75) j dX10_set_75 (kd_items hb) (by omega) hje (by rw [ln_items hb]; omega) ?_
        refine z_lret (pc := 76) dX10_set_76 rfl ?_
        have hnr : nrw (σ.1 (49 + b) 2).toInt x3 = nrw ((a.2.1 b).1.toInt - 1) x3 := by rw [hB2]
        have e := sSet_4 (a := a) (b := x1) (i := x2) (v := x3) hb hbe hq hje hj
        refine h _ _ (by rw [e, uI_2, uJ_eq, hnr]) (by
          rw [e]
          refine rC_bed hr hb ?_ (fun o h0 h1 h2 => ?_) ⟨?_, fun _ => ⟨?_, ?_, fun i hi => ?_⟩⟩ (uI_eq _ _ _ _)
          · simp (disch := omega) only [uI_row, uI_2, uI_nk, uI_no, uI_eq, zJ_1, zJ_row, uJ_1, uJ_row, cpJ_1, cpJ_row]
          · constructor <;> simp (disch := omega) only [uI_row, uI_2, uI_nk, uI_no, uI_eq, zJ_1, zJ_row, uJ_1, uJ_row, cpJ_1, cpJ_row]
          · simp (disch := omega) only [uI_row, uI_2, uI_nk, uI_no, uI_eq, zJ_1, zJ_row, uJ_1, uJ_row, cpJ_1, cpJ_row]
            exact (hr.2.1 b hb).1
          · simp (disch := omega) only [uI_row, uI_2, uI_nk, uI_no, uI_eq, zJ_1, zJ_row, uJ_1, uJ_row, cpJ_1, cpJ_row]
            exact hB2
          · simp (disch := omega) only [uI_row, uI_2, uI_nk, uI_no, uI_eq, zJ_1, zJ_row, uJ_1, uJ_row, cpJ_1, cpJ_row]
            exact hB3
          · rw [uI_2, upd_uJ, hnr]
            by_cases hij : i = j
            · subst hij; simp [vp_updL]
            · simp only [vp_updL, if_neg hij]
              exact hB4 i hi) (eqM_uI (eqM_uJ eqM_rf (isM_big (by omega))) rfl)
      · skip
        refine z_if_ne (pc := 41) (tgt := 51) dX10_set_41 rfl (fun hc => absurd hc (by decide)) (fun _ => ?_)
        refine z_aload_n (pc := 44) dX10_set_44 rfl ?_
        refine z_iconst (pc := 45) (v := 2) dX10_set_45 (by decide) ?_
        refine z_iv1 (pc := 46) dX10_set_46 kv_X10_93 rfl (by decide) (by decide) rfl rfl ?_
        refine c_X10_found (by decide) (by decide) (fun r er => ?_)
        refine z_i2l (pc := 49) dX10_set_49 ?_
        refine z_lret (pc := 50) dX10_set_50 rfl ?_
        have h1 : (1 : Int32).toInt = 1 := rfl
        have e := sSet_3 (a := a) (b := x1) (i := x2) (v := x3) hb hbe hq (by omega)
        exact h _ _ (by rw [e, Int32.toInt_toInt64, er]; rfl) (by rw [e]; exact rC_stat hr) (eqM_uI eqM_rf rfl)
    · skip
      refine z_aload_n (pc := 27) dX10_set_27 rfl ?_
      refine z_iconst (pc := 28) (v := 1) dX10_set_28 (by decide) ?_
      refine z_iv1 (pc := 29) dX10_set_29 kv_X10_93 rfl (by decide) (by decide) rfl rfl ?_
      refine c_X10_found (by decide) (by decide) (fun r er => ?_)
      refine z_i2l (pc := 32) dX10_set_32 ?_
      refine z_lret (pc := 33) dX10_set_33 rfl ?_
      have e := sSet_2 (a := a) (b := x1) (i := x2) (v := x3) hb hbe (lane_no (hr.2.1 b hb) h24)
      exact h _ _ (by rw [e, Int32.toInt_toInt64, er]; rfl) (by rw [e]; exact rC_stat hr) (eqM_uI eqM_rf rfl)
  · skip
    refine z_if_ne (pc := 4) (tgt := 11) dX10_set_4 rfl (fun hc => absurd hc (by decide)) (fun _ => ?_)
    refine z_ldc2 (pc := 7) dX10_set_7 kc_X10_104 ?_
    refine z_lret (pc := 10) dX10_set_10 rfl ?_
    have e := sSet_1 (a := a) (b := x1) (i := x2) (v := x3) (by omega)
    exact h _ _ (by rw [e]; rfl) (by rw [e]; exact hr) eqM_rf

theorem c_X10_drop {l : Launch} {G : Gx} {d : Nat} {σ : Sg} {Q : Option Value → Sg → Prop} {a : Ab} {x1 : Int32} (hr : rC σ a) (hk : abOk a) (h : ∀ (r : Int32) (τ : Sg), r.toInt = (sDrop a x1).1 → rC τ (sDrop a x1).2 → eqM σ τ → Q (some (.int r)) τ) : Z l G M_X10_drop (d + 2) 0 [some (.ref 0), some (.int x1)] [] σ Q := by
  refine z_sub (L' := [some (.ref 0), some (.int x1)]) ⟨rfl, rfl, trivial⟩ ?_
  refine z_iload_n (pc := 0) dX10_drop_0 rfl ?_
  refine z_is1 (pc := 1) dX10_drop_1 ks_X10_84 rfl rfl ?_
  refine c_X10_isBed (fun q1 => ?_) (fun q1 => ?_)
  · skip
    refine z_if_ne (pc := 4) (tgt := 10) dX10_drop_4 rfl (fun _ => ?_) (fun hc => absurd hc (by decide))
    obtain ⟨b, hb, hbe⟩ : ∃ b : Nat, b < 8 ∧ x1.toInt = (b : Int) := ⟨x1.toInt.toNat, by omega, by omega⟩
    refine z_aload_n (pc := 10) dX10_drop_10 rfl ?_
    refine z_getR (pc := 11) (t := 2) dX10_drop_11 fk_X10_11 rfl (by decide) (by decide) (by decide) rfl ?_
    refine z_iload_n (pc := 14) dX10_drop_14 rfl ?_
    refine z_aaldN (pc := 15) b (t := (49 + b)) dX10_drop_15 (Or.inl rfl) (by decide) hbe (by show _ < 8; omega) rfl ?_
    refine z_getI (pc := 16) dX10_drop_16 fk_X10_106 (kd_bed hb) (by omega) (by decide) (by decide) ?_
    refine zq_if_ne (pc := 19) (tgt := 28) dX10_drop_19 rfl rfl (fun h19 => ?_) (fun h19 => ?_)
    · skip
      refine z_aload_n (pc := 28) dX10_drop_28 rfl ?_
      refine z_getR (pc := 29) (t := 2) dX10_drop_29 fk_X10_11 rfl (by decide) (by decide) (by decide) rfl ?_
      refine z_iload_n (pc := 32) dX10_drop_32 rfl ?_
      refine z_aaldN (pc := 33) b (t := (49 + b)) dX10_drop_33 (Or.inl rfl) (by decide) hbe (by show _ < 8; omega) rfl ?_
      refine z_iconst (pc := 34) (v := 0) dX10_drop_34 (by decide) ?_
      refine z_putB (pc := 35) dX10_drop_35 fk_X10_106 (kd_bed hb) (by omega) (by decide) (by decide) (by decide) ?_
      refine z_aload_n (pc := 38) dX10_drop_38 rfl ?_
      refine z_aload_n (pc := 39) dX10_drop_39 rfl ?_
      refine z_getR (pc := 40) (t := 2) dX10_drop_40 fk_X10_11 rfl (by decide) (by decide) (by decide) rfl ?_
      refine z_iload_n (pc := 43) dX10_drop_43 rfl ?_
      refine z_aaldN (pc := 44) b (t := (49 + b)) dX10_drop_44 (Or.inl rfl) (by decide) hbe (by show _ < 8; omega) rfl ?_
      refine z_getI (pc := 45) dX10_drop_45 fk_X10_125 (kd_bed hb) (by omega) (by decide) (by decide) ?_
      refine z_iv1 (pc := 48) dX10_drop_48 kv_X10_101 rfl (by decide) (by decide) rfl rfl ?_
      refine c_X10_done ?_
      refine z_iret (pc := 51) dX10_drop_51 rfl ?_
      have hq := lane_yes (hr.2.1 b hb) h19
      have e := sDrop_3 (a := a) (b := x1) hb hbe hq
      refine h _ _ (by rw [e, uI_nk (by omega), ((hr.2.1 b hb).2 hq).2.1]) (by
        rw [e]
        refine rC_bed hr hb ?_ (fun o h0 h1 h2 => ?_) ⟨?_, fun z => absurd rfl z⟩ (uI_eq _ _ _ _)
        · simp (disch := omega) only [uI_row, uI_2, uI_nk, uI_no, uI_eq, zJ_1, zJ_row, uJ_1, uJ_row, cpJ_1, cpJ_row]
        · constructor <;> simp (disch := omega) only [uI_row, uI_2, uI_nk, uI_no, uI_eq, zJ_1, zJ_row, uJ_1, uJ_row, cpJ_1, cpJ_row]
        · rw [if_pos rfl]
          simp (disch := omega) only [uI_row, uI_2, uI_nk, uI_no, uI_eq, zJ_1, zJ_row, uJ_1, uJ_row, cpJ_1, cpJ_row]) (eqM_uI (eqM_uI eqM_rf (isM_bed hb)) rfl)
    · skip
      refine z_aload_n (pc := 22) dX10_drop_22 rfl ?_
      refine z_iconst (pc := 23) (v := 1) dX10_drop_23 (by decide) ?_
      refine z_iv1 (pc := 24) dX10_drop_24 kv_X10_93 rfl (by decide) (by decide) rfl rfl ?_
      refine c_X10_found (by decide) (by decide) (fun r er => ?_)
      refine z_iret (pc := 27) dX10_drop_27 rfl ?_
      have e := sDrop_2 (a := a) (b := x1) hb hbe (lane_no (hr.2.1 b hb) h19)
      exact h _ _ (by rw [e, er]; rfl) (by rw [e]; exact rC_stat hr) (eqM_uI eqM_rf rfl)
  · skip
    refine z_if_ne (pc := 4) (tgt := 10) dX10_drop_4 rfl (fun hc => absurd hc (by decide)) (fun _ => ?_)
    refine z_ldc (pc := 7) dX10_drop_7 kc_X10_92 ?_
    refine z_iret (pc := 9) dX10_drop_9 rfl ?_
    have e := sDrop_1 (a := a) (b := x1) (by omega)
    exact h _ _ (by rw [e]; rfl) (by rw [e]; exact hr) eqM_rf

theorem c_X10_copy {l : Launch} {G : Gx} {d : Nat} {σ : Sg} {Q : Option Value → Sg → Prop} {a : Ab} {x1 x2 x3 x4 x5 : Int32} (hr : rC σ a) (hk : abOk a) (h : ∀ (r : Int32) (τ : Sg), r.toInt = (sCopy a x1 x2 x3 x4 x5).1 → rC τ (sCopy a x1 x2 x3 x4 x5).2 → eqM σ τ → Q (some (.int r)) τ) : Z l G M_X10_copy (d + 2) 0 [some (.ref 0), some (.int x1), some (.int x2), some (.int x3), some (.int x4), some (.int x5)] [] σ Q := by
  refine z_sub (L' := [some (.ref 0), some (.int x1), some (.int x2), some (.int x3), some (.int x4), some (.int x5), none, none]) ⟨rfl, rfl, rfl, rfl, rfl, rfl, trivial⟩ ?_
  refine z_iload_n (pc := 0) dX10_copy_0 rfl ?_
  refine z_is1 (pc := 1) dX10_copy_1 ks_X10_84 rfl rfl ?_
  refine c_X10_isBed (fun q1 => ?_) (fun q1 => ?_)
  · skip
    refine z_if_eq (pc := 4) (tgt := 14) dX10_copy_4 rfl (fun hc => absurd hc (by decide)) (fun _ => ?_)
    refine z_iload_n (pc := 7) dX10_copy_7 rfl ?_
    refine z_is1 (pc := 8) dX10_copy_8 ks_X10_84 rfl rfl ?_
    refine c_X10_isBed (fun q8 => ?_) (fun q8 => ?_)
    · skip
      refine z_if_ne (pc := 11) (tgt := 17) dX10_copy_11 rfl (fun _ => ?_) (fun hc => absurd hc (by decide))
      obtain ⟨b, hb, hbe⟩ : ∃ b : Nat, b < 8 ∧ x1.toInt = (b : Int) := ⟨x1.toInt.toNat, by omega, by omega⟩
      obtain ⟨c, hc, hce⟩ : ∃ c : Nat, c < 8 ∧ x3.toInt = (c : Int) := ⟨x3.toInt.toNat, by omega, by omega⟩
      refine z_aload_n (pc := 17) dX10_copy_17 rfl ?_
      refine z_getR (pc := 18) (t := 2) dX10_copy_18 fk_X10_11 rfl (by decide) (by decide) (by decide) rfl ?_
      refine z_iload_n (pc := 21) dX10_copy_21 rfl ?_
      refine z_aaldN (pc := 22) b (t := (49 + b)) dX10_copy_22 (Or.inl rfl) (by decide) hbe (by show _ < 8; omega) rfl ?_
      refine z_astore (pc := 23) dX10_copy_23 rfl rfl (by dsimp only [setI, setL, List.set]) ?_
      refine z_aload_n (pc := 25) dX10_copy_25 rfl ?_
      refine z_getR (pc := 26) (t := 2) dX10_copy_26 fk_X10_11 rfl (by decide) (by decide) (by decide) rfl ?_
      refine z_iload_n (pc := 29) dX10_copy_29 rfl ?_
      refine z_aaldN (pc := 30) c (t := (49 + c)) dX10_copy_30 (Or.inl rfl) (by decide) hce (by show _ < 8; omega) rfl ?_
      refine z_astore (pc := 31) dX10_copy_31 rfl rfl (by dsimp only [setI, setL, List.set]) ?_
      refine z_aload (pc := 33) dX10_copy_33 rfl ?_
      refine z_getI (pc := 35) dX10_copy_35 fk_X10_106 (kd_bed hb) (by omega) (by decide) (by decide) ?_
      refine zq_if_eq (pc := 38) (tgt := 49) dX10_copy_38 rfl rfl (fun h38 => ?_) (fun h38 => ?_)
      · skip
        refine z_aload_n (pc := 49) dX10_copy_49 rfl ?_
        refine z_iconst (pc := 50) (v := 1) dX10_copy_50 (by decide) ?_
        refine z_iv1 (pc := 51) dX10_copy_51 kv_X10_93 rfl (by decide) (by decide) rfl rfl ?_
        refine c_X10_found (by decide) (by decide) (fun r er => ?_)
        refine z_iret (pc := 54) dX10_copy_54 rfl ?_
        first | (have e := sCopy_2 (a := a) (p := x1) (i := x2) (q := x3) (j := x4) (n := x5) hb hc hbe hce (Or.inl (lane_no (hr.2.1 b hb) h38)); exact h _ _ (by rw [e, er]; rfl) (by rw [e]; exact rC_stat hr) (eqM_uI eqM_rf rfl)) | (have e := sCopy_2 (a := a) (p := x1) (i := x2) (q := x3) (j := x4) (n := x5) hb hc hbe hce (Or.inr (lane_no (hr.2.1 c hc) h46)); exact h _ _ (by rw [e, er]; rfl) (by rw [e]; exact rC_stat hr) (eqM_uI eqM_rf rfl))
      · skip
        refine z_aload (pc := 41) dX10_copy_41 rfl ?_
        refine z_getI (pc := 43) dX10_copy_43 fk_X10_106 (kd_bed hc) (by omega) (by decide) (by decide) ?_
        refine zq_if_ne (pc := 46) (tgt := 55) dX10_copy_46 rfl rfl (fun h46 => ?_) (fun h46 => ?_)
        · skip
          have hq := lane_yes (hr.2.1 b hb) h38
          have hq2 := lane_yes (hr.2.1 c hc) h46
          obtain ⟨hB2, hB3, hB4⟩ := (hr.2.1 b hb).2 hq
          obtain ⟨hC2, hC3, hC4⟩ := (hr.2.1 c hc).2 hq2
          have hBk2 := (hk.2.2.1 b hb).2.2 hq
          have hCk2 := (hk.2.2.1 c hc).2.2 hq2
          have hno : ¬ ((a.2.1 b).1 = 0 ∨ (a.2.1 c).1 = 0) := fun z => z.elim hq hq2
          have e3 : (σ.1 (49 + b) 3).toInt = (a.2.1 b).2.1.toInt := by rw [hB3]
          have e4 : (σ.1 (49 + c) 3).toInt = (a.2.1 c).2.1.toInt := by rw [hC3]
          refine z_aload (pc := 55) dX10_copy_55 rfl ?_
          refine z_getI (pc := 57) dX10_copy_57 fk_X10_128 (kd_bed hb) (by omega) (by decide) (by decide) ?_
          refine z_aload (pc := 60) dX10_copy_60 rfl ?_
          refine z_getI (pc := 62) dX10_copy_62 fk_X10_128 (kd_bed hc) (by omega) (by decide) (by decide) ?_
          refine zq_icmp_eq (pc := 65) (tgt := 74) dX10_copy_65 rfl rfl rfl (fun h65 => ?_) (fun h65 => ?_)
          · skip
            refine z_aload (pc := 74) dX10_copy_74 rfl ?_
            refine z_iload_n (pc := 76) dX10_copy_76 rfl ?_
            refine z_iload (pc := 77) dX10_copy_77 rfl ?_
            refine z_iv2 (pc := 79) dX10_copy_79 kv_X10_110 (kd_bed hb) (by omega) (by decide) rfl rfl ?_
            refine c_X0_has (kd_bed hb) (by omega) (by omega) (fun q79 => ?_) (fun q79 => ?_)
            · skip
              refine z_if_eq (pc := 82) (tgt := 97) dX10_copy_82 rfl (fun hc => absurd hc (by decide)) (fun _ => ?_)
              refine z_aload (pc := 85) dX10_copy_85 rfl ?_
              refine z_iload (pc := 87) dX10_copy_87 rfl ?_
              refine z_iload (pc := 89) dX10_copy_89 rfl ?_
              refine z_iv2 (pc := 91) dX10_copy_91 kv_X10_110 (kd_bed hc) (by omega) (by decide) rfl rfl ?_
              refine c_X0_has (kd_bed hc) (by omega) (by omega) (fun q91 => ?_) (fun q91 => ?_)
              · skip
                refine z_if_ne (pc := 94) (tgt := 103) dX10_copy_94 rfl (fun _ => ?_) (fun hc => absurd hc (by decide))
                obtain ⟨i, hi⟩ : ∃ i : Nat, x2.toInt = (i : Int) := ⟨x2.toInt.toNat, by omega⟩
                obtain ⟨j, hj⟩ : ∃ j : Nat, x4.toInt = (j : Int) := ⟨x4.toInt.toNat, by omega⟩
                obtain ⟨n, hn⟩ : ∃ n : Nat, x5.toInt = (n : Int) := ⟨x5.toInt.toNat, by omega⟩
                refine z_aload (pc := 103) dX10_copy_103 rfl ?_
                refine z_getR (pc := 105) (t := (57 + b)) dX10_copy_105 fk_X10_113 (kd_bed hb) (by omega) (by decide) (by decide) (rfo_bed hb) ?_
                refine z_iload_n (pc := 108) dX10_copy_108 rfl ?_
                refine z_aload (pc := 109) dX10_copy_109 rfl ?_
                refine z_getR (pc := 111) (t := (57 + c)) dX10_copy_111 fk_X10_113 (kd_bed hc) (by omega) (by decide) (by decide) (rfo_bed hc) ?_
                refine z_iload (pc := 114) dX10_copy_114 rfl ?_
                refine z_iload (pc := 116) dX10_copy_116 rfl ?_
                refine z_copyl (pc := 118) dX10_copy_118 kj_X10_131 (kd_items hb) (kd_items hc) (by omega) (by omega) (fun z => by have := Int32.lt_iff_toInt_lt.mp z; have z0 : (0 : Int32).toInt = 0 := rfl; omega) (fun z => by have := Int32.lt_iff_toInt_lt.mp z; have z0 : (0 : Int32).toInt = 0 := rfl; omega) (fun z => by have := Int32.lt_iff_toInt_lt.mp z; have z0 : (0 : Int32).toInt = 0 := rfl; omega) (by rw [ln_items hb, zclamp hi, zclamp hn]; omega) (by rw [ln_items hc, zclamp hj, zclamp hn]; omega) rfl ?_
                rw [zclamp hi, zclamp hj, zclamp hn]
                refine z_aload_n (pc := 121) dX10_copy_121 rfl ?_
                refine z_iload (pc := 122) dX10_copy_122 rfl ?_
                refine z_iv1 (pc := 124) dX10_copy_124 kv_X10_101 rfl (by decide) (by decide) rfl rfl ?_
                refine c_X10_done ?_
                refine z_iret (pc := 127) dX10_copy_127 rfl ?_
                have hln : (a.2.1 b).1 = (a.2.1 c).1 := Int32.toInt_inj.mp (by omega)
                have e := sCopy_5 (a := a) (p := x1) (i := x2) (q := x3) (j := x4) (n := x5) hb hc hbe hce hno hln hi hj hn (by omega) (by omega)
                refine h _ _ (by rw [e]) (by
                  rw [e]
                  refine rC_bed hr hc ?_ (fun o h0 h1 h2 => ?_) ⟨?_, fun _ => ⟨?_, ?_, fun t ht => ?_⟩⟩ (uI_eq _ _ _ _)
                  · simp (disch := omega) only [uI_row, uI_2, uI_nk, uI_no, uI_eq, zJ_1, zJ_row, uJ_1, uJ_row, cpJ_1, cpJ_row]
                  · constructor <;> simp (disch := omega) only [uI_row, uI_2, uI_nk, uI_no, uI_eq, zJ_1, zJ_row, uJ_1, uJ_row, cpJ_1, cpJ_row]
                  · simp (disch := omega) only [uI_row, uI_2, uI_nk, uI_no, uI_eq, zJ_1, zJ_row, uJ_1, uJ_row, cpJ_1, cpJ_row]
                    exact (hr.2.1 c hc).1
                  · simp (disch := omega) only [uI_row, uI_2, uI_nk, uI_no, uI_eq, zJ_1, zJ_row, uJ_1, uJ_row, cpJ_1, cpJ_row]
                    exact hC2
                  · simp (disch := omega) only [uI_row, uI_2, uI_nk, uI_no, uI_eq, zJ_1, zJ_row, uJ_1, uJ_row, cpJ_1, cpJ_row]
                    exact hC3
                  · rw [uI_2, cpJ_at]
                    show va_cpy _ _ i j n t = va_cpy _ _ i j n t
                    unfold va_cpy
                    by_cases hc9 : j ≤ t ∧ t < j + n
                    · rw [if_pos hc9, if_pos hc9]; exact hB4 _ (by omega)
                    · rw [if_neg hc9, if_neg hc9]; exact hC4 t ht) (eqM_uI (eqM_cpJ eqM_rf (isM_big (by omega))) rfl)
              · skip
                refine z_if_ne (pc := 94) (tgt := 103) dX10_copy_94 rfl (fun hc => absurd hc (by decide)) (fun _ => ?_)
                refine z_aload_n (pc := 97) dX10_copy_97 rfl ?_
                refine z_iconst (pc := 98) (v := 2) dX10_copy_98 (by decide) ?_
                refine z_iv1 (pc := 99) dX10_copy_99 kv_X10_93 rfl (by decide) (by decide) rfl rfl ?_
                refine c_X10_found (by decide) (by decide) (fun r er => ?_)
                refine z_iret (pc := 102) dX10_copy_102 rfl ?_
                have hln : (a.2.1 b).1 = (a.2.1 c).1 := Int32.toInt_inj.mp (by omega)
                have e := sCopy_4 (a := a) (p := x1) (i := x2) (q := x3) (j := x4) (n := x5) hb hc hbe hce hno hln (by omega)
                exact h _ _ (by rw [e, er]; rfl) (by rw [e]; exact rC_stat hr) (eqM_uI eqM_rf rfl)
            · skip
              refine z_if_eq (pc := 82) (tgt := 97) dX10_copy_82 rfl (fun _ => ?_) (fun hc => absurd hc (by decide))
              refine z_aload_n (pc := 97) dX10_copy_97 rfl ?_
              refine z_iconst (pc := 98) (v := 2) dX10_copy_98 (by decide) ?_
              refine z_iv1 (pc := 99) dX10_copy_99 kv_X10_93 rfl (by decide) (by decide) rfl rfl ?_
              refine c_X10_found (by decide) (by decide) (fun r er => ?_)
              refine z_iret (pc := 102) dX10_copy_102 rfl ?_
              have hln : (a.2.1 b).1 = (a.2.1 c).1 := Int32.toInt_inj.mp (by omega)
              have e := sCopy_4 (a := a) (p := x1) (i := x2) (q := x3) (j := x4) (n := x5) hb hc hbe hce hno hln (by omega)
              exact h _ _ (by rw [e, er]; rfl) (by rw [e]; exact rC_stat hr) (eqM_uI eqM_rf rfl)
          · skip
            refine z_aload_n (pc := 68) dX10_copy_68 rfl ?_
            refine z_iconst (pc := 69) (v := 5) dX10_copy_69 (by decide) ?_
            refine z_iv1 (pc := 70) dX10_copy_70 kv_X10_93 rfl (by decide) (by decide) rfl rfl ?_
            refine c_X10_found (by decide) (by decide) (fun r er => ?_)
            refine z_iret (pc := 73) dX10_copy_73 rfl ?_
            have e := sCopy_3 (a := a) (p := x1) (i := x2) (q := x3) (j := x4) (n := x5) hb hc hbe hce hno (fun z => by rw [z] at hB2; omega)
            exact h _ _ (by rw [e, er]; rfl) (by rw [e]; exact rC_stat hr) (eqM_uI eqM_rf rfl)
        · skip
          refine z_aload_n (pc := 49) dX10_copy_49 rfl ?_
          refine z_iconst (pc := 50) (v := 1) dX10_copy_50 (by decide) ?_
          refine z_iv1 (pc := 51) dX10_copy_51 kv_X10_93 rfl (by decide) (by decide) rfl rfl ?_
          refine c_X10_found (by decide) (by decide) (fun r er => ?_)
          refine z_iret (pc := 54) dX10_copy_54 rfl ?_
          first | (have e := sCopy_2 (a := a) (p := x1) (i := x2) (q := x3) (j := x4) (n := x5) hb hc hbe hce (Or.inl (lane_no (hr.2.1 b hb) h38)); exact h _ _ (by rw [e, er]; rfl) (by rw [e]; exact rC_stat hr) (eqM_uI eqM_rf rfl)) | (have e := sCopy_2 (a := a) (p := x1) (i := x2) (q := x3) (j := x4) (n := x5) hb hc hbe hce (Or.inr (lane_no (hr.2.1 c hc) h46)); exact h _ _ (by rw [e, er]; rfl) (by rw [e]; exact rC_stat hr) (eqM_uI eqM_rf rfl))
    · skip
      refine z_if_ne (pc := 11) (tgt := 17) dX10_copy_11 rfl (fun hc => absurd hc (by decide)) (fun _ => ?_)
      refine z_ldc (pc := 14) dX10_copy_14 kc_X10_92 ?_
      refine z_iret (pc := 16) dX10_copy_16 rfl ?_
      have e := sCopy_1 (a := a) (p := x1) (i := x2) (q := x3) (j := x4) (n := x5) (by omega)
      exact h _ _ (by rw [e]; rfl) (by rw [e]; exact hr) eqM_rf
  · skip
    refine z_if_eq (pc := 4) (tgt := 14) dX10_copy_4 rfl (fun _ => ?_) (fun hc => absurd hc (by decide))
    refine z_ldc (pc := 14) dX10_copy_14 kc_X10_92 ?_
    refine z_iret (pc := 16) dX10_copy_16 rfl ?_
    have e := sCopy_1 (a := a) (p := x1) (i := x2) (q := x3) (j := x4) (n := x5) (by omega)
    exact h _ _ (by rw [e]; rfl) (by rw [e]; exact hr) eqM_rf
end
