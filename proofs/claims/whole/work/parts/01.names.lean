-- ===== PART A: goes FIRST, ahead of the names: the tables' words, and 'selects' of the private methods out of them =====
/-- a private method of a class that the tables say can be made, by its rows of tables_1 -/
def lw_okq (q : MethodName × Nat) : Prop := (q.1.cls ≠ "java/lang/invoke/MethodHandle" ∧ q.1.cls ≠ "java/lang/invoke/VarHandle") ∧ Cond.instantiable q.1.cls q.2 ∈ tables_1 ∧ Cond.privateMethod q.1 ∈ tables_1 ∧ Cond.instanceMethod q.1 ∈ tables_1
theorem lw_p0 : lw_okq (⟨"GroebnerFan", "computeOrder", "(III)V"⟩, 12) := ⟨⟨by decide +kernel, by decide +kernel⟩, List.mem_of_getElem? (i := 25) (by decide +kernel), List.mem_of_getElem? (i := 424) (by decide +kernel), List.mem_of_getElem? (i := 425) (by decide +kernel)⟩
theorem lw_p1 : lw_okq (⟨"GroebnerFan$ReducedBasis", "nextColumn", "(LGroebnerFan$Order;)I"⟩, 5) := ⟨⟨by decide +kernel, by decide +kernel⟩, List.mem_of_getElem? (i := 132) (by decide +kernel), List.mem_of_getElem? (i := 441) (by decide +kernel), List.mem_of_getElem? (i := 442) (by decide +kernel)⟩
theorem lw_p2 : lw_okq (⟨"GroebnerFan$ReducedBasis", "isClosed", "(I)Z"⟩, 5) := ⟨⟨by decide +kernel, by decide +kernel⟩, List.mem_of_getElem? (i := 132) (by decide +kernel), List.mem_of_getElem? (i := 445) (by decide +kernel), List.mem_of_getElem? (i := 446) (by decide +kernel)⟩
theorem lw_p3 : lw_okq (⟨"GroebnerFan$ReducedBasis", "topOf", "(I)I"⟩, 5) := ⟨⟨by decide +kernel, by decide +kernel⟩, List.mem_of_getElem? (i := 132) (by decide +kernel), List.mem_of_getElem? (i := 449) (by decide +kernel), List.mem_of_getElem? (i := 450) (by decide +kernel)⟩
theorem lw_p4 : lw_okq (⟨"GroebnerFan$Order", "weightOf", "(I)I"⟩, 3) := ⟨⟨by decide +kernel, by decide +kernel⟩, List.mem_of_getElem? (i := 116) (by decide +kernel), List.mem_of_getElem? (i := 457) (by decide +kernel), List.mem_of_getElem? (i := 458) (by decide +kernel)⟩
theorem lw_p5 : lw_okq (⟨"GroebnerFan$Points", "power", "(II)I"⟩, 4) := ⟨⟨by decide +kernel, by decide +kernel⟩, List.mem_of_getElem? (i := 33) (by decide +kernel), List.mem_of_getElem? (i := 469) (by decide +kernel), List.mem_of_getElem? (i := 470) (by decide +kernel)⟩
theorem lw_p6 : lw_okq (⟨"GroebnerFan$Elimination", "addMultiple", "([I[II)V"⟩, 8) := ⟨⟨by decide +kernel, by decide +kernel⟩, List.mem_of_getElem? (i := 75) (by decide +kernel), List.mem_of_getElem? (i := 478) (by decide +kernel), List.mem_of_getElem? (i := 479) (by decide +kernel)⟩
theorem lw_p7 : lw_okq (⟨"GroebnerFan$Elimination", "firstNonzeroValue", "()I"⟩, 8) := ⟨⟨by decide +kernel, by decide +kernel⟩, List.mem_of_getElem? (i := 75) (by decide +kernel), List.mem_of_getElem? (i := 482) (by decide +kernel), List.mem_of_getElem? (i := 483) (by decide +kernel)⟩
theorem lw_p8 : lw_okq (⟨"GroebnerFan$Elimination", "keepValues", "(II)V"⟩, 8) := ⟨⟨by decide +kernel, by decide +kernel⟩, List.mem_of_getElem? (i := 75) (by decide +kernel), List.mem_of_getElem? (i := 486) (by decide +kernel), List.mem_of_getElem? (i := 487) (by decide +kernel)⟩
theorem lw_p9 : lw_okq (⟨"GroebnerFan$ReducedBasis", "insertCorner", "(ILGroebnerFan$Elimination;)V"⟩, 5) := ⟨⟨by decide +kernel, by decide +kernel⟩, List.mem_of_getElem? (i := 132) (by decide +kernel), List.mem_of_getElem? (i := 494) (by decide +kernel), List.mem_of_getElem? (i := 495) (by decide +kernel)⟩
theorem lw_p10 : lw_okq (⟨"GroebnerFan$BasisPolynomial", "insertTerm", "(II)V"⟩, 4) := ⟨⟨by decide +kernel, by decide +kernel⟩, List.mem_of_getElem? (i := 139) (by decide +kernel), List.mem_of_getElem? (i := 502) (by decide +kernel), List.mem_of_getElem? (i := 503) (by decide +kernel)⟩
theorem lw_p11 : lw_okq (⟨"GroebnerFan$ReducedBasis", "findWall", "()V"⟩, 5) := ⟨⟨by decide +kernel, by decide +kernel⟩, List.mem_of_getElem? (i := 132) (by decide +kernel), List.mem_of_getElem? (i := 506) (by decide +kernel), List.mem_of_getElem? (i := 507) (by decide +kernel)⟩
theorem lw_p12 : lw_okq (⟨"GroebnerFan$ReducedBasis", "lowerWall", "(LGroebnerFan$BasisPolynomial;)V"⟩, 5) := ⟨⟨by decide +kernel, by decide +kernel⟩, List.mem_of_getElem? (i := 132) (by decide +kernel), List.mem_of_getElem? (i := 510) (by decide +kernel), List.mem_of_getElem? (i := 511) (by decide +kernel)⟩
theorem lw_p13 : lw_okq (⟨"GroebnerFan", "findCone", "(I)LGroebnerFan$ReducedBasis;"⟩, 12) := ⟨⟨by decide +kernel, by decide +kernel⟩, List.mem_of_getElem? (i := 25) (by decide +kernel), List.mem_of_getElem? (i := 548) (by decide +kernel), List.mem_of_getElem? (i := 549) (by decide +kernel)⟩
theorem lw_p14 : lw_okq (⟨"GroebnerFan", "findBasisPolynomial", "(II)LGroebnerFan$BasisPolynomial;"⟩, 12) := ⟨⟨by decide +kernel, by decide +kernel⟩, List.mem_of_getElem? (i := 25) (by decide +kernel), List.mem_of_getElem? (i := 593) (by decide +kernel), List.mem_of_getElem? (i := 594) (by decide +kernel)⟩
theorem lw_p15 : lw_okq (⟨"GroebnerFan$ReducedBasis", "hasCorner", "(I)Z"⟩, 5) := ⟨⟨by decide +kernel, by decide +kernel⟩, List.mem_of_getElem? (i := 132) (by decide +kernel), List.mem_of_getElem? (i := 613) (by decide +kernel), List.mem_of_getElem? (i := 614) (by decide +kernel)⟩
def lw_privs_1 : List (MethodName × Nat) := [(⟨"GroebnerFan", "computeOrder", "(III)V"⟩, 12), (⟨"GroebnerFan$ReducedBasis", "nextColumn", "(LGroebnerFan$Order;)I"⟩, 5), (⟨"GroebnerFan$ReducedBasis", "isClosed", "(I)Z"⟩, 5), (⟨"GroebnerFan$ReducedBasis", "topOf", "(I)I"⟩, 5), (⟨"GroebnerFan$Order", "weightOf", "(I)I"⟩, 3), (⟨"GroebnerFan$Points", "power", "(II)I"⟩, 4), (⟨"GroebnerFan$Elimination", "addMultiple", "([I[II)V"⟩, 8), (⟨"GroebnerFan$Elimination", "firstNonzeroValue", "()I"⟩, 8), (⟨"GroebnerFan$Elimination", "keepValues", "(II)V"⟩, 8), (⟨"GroebnerFan$ReducedBasis", "insertCorner", "(ILGroebnerFan$Elimination;)V"⟩, 5), (⟨"GroebnerFan$BasisPolynomial", "insertTerm", "(II)V"⟩, 4), (⟨"GroebnerFan$ReducedBasis", "findWall", "()V"⟩, 5), (⟨"GroebnerFan$ReducedBasis", "lowerWall", "(LGroebnerFan$BasisPolynomial;)V"⟩, 5), (⟨"GroebnerFan", "findCone", "(I)LGroebnerFan$ReducedBasis;"⟩, 12), (⟨"GroebnerFan", "findBasisPolynomial", "(II)LGroebnerFan$BasisPolynomial;"⟩, 12), (⟨"GroebnerFan$ReducedBasis", "hasCorner", "(I)Z"⟩, 5)]
theorem lw_r1 : ∀ q ∈ lw_privs_1, lw_okq q := List.forall_mem_cons.mpr ⟨lw_p0, List.forall_mem_cons.mpr ⟨lw_p1, List.forall_mem_cons.mpr ⟨lw_p2, List.forall_mem_cons.mpr ⟨lw_p3, List.forall_mem_cons.mpr ⟨lw_p4, List.forall_mem_cons.mpr ⟨lw_p5, List.forall_mem_cons.mpr ⟨lw_p6, List.forall_mem_cons.mpr ⟨lw_p7, List.forall_mem_cons.mpr ⟨lw_p8, List.forall_mem_cons.mpr ⟨lw_p9, List.forall_mem_cons.mpr ⟨lw_p10, List.forall_mem_cons.mpr ⟨lw_p11, List.forall_mem_cons.mpr ⟨lw_p12, List.forall_mem_cons.mpr ⟨lw_p13, List.forall_mem_cons.mpr ⟨lw_p14, List.forall_mem_cons.mpr ⟨lw_p15, fun _ h => absurd h List.not_mem_nil⟩⟩⟩⟩⟩⟩⟩⟩⟩⟩⟩⟩⟩⟩⟩⟩
theorem lw_p16 : lw_okq (⟨"GroebnerFan$Fan", "isBefore", "(ILGroebnerFan$BasisPolynomial;)Z"⟩, 2) := ⟨⟨by decide +kernel, by decide +kernel⟩, List.mem_of_getElem? (i := 190) (by decide +kernel), List.mem_of_getElem? (i := 625) (by decide +kernel), List.mem_of_getElem? (i := 626) (by decide +kernel)⟩
theorem lw_p17 : lw_okq (⟨"GroebnerFan$ReducedBasis", "rowLength", "(I)I"⟩, 5) := ⟨⟨by decide +kernel, by decide +kernel⟩, List.mem_of_getElem? (i := 132) (by decide +kernel), List.mem_of_getElem? (i := 665) (by decide +kernel), List.mem_of_getElem? (i := 666) (by decide +kernel)⟩
theorem lw_p18 : lw_okq (⟨"GroebnerFan", "replaceByInterpolation", "()I"⟩, 12) := ⟨⟨by decide +kernel, by decide +kernel⟩, List.mem_of_getElem? (i := 25) (by decide +kernel), List.mem_of_getElem? (i := 727) (by decide +kernel), List.mem_of_getElem? (i := 728) (by decide +kernel)⟩
theorem lw_p19 : lw_okq (⟨"GroebnerFan", "findSlot", "(I)LGroebnerFan$Slot;"⟩, 12) := ⟨⟨by decide +kernel, by decide +kernel⟩, List.mem_of_getElem? (i := 25) (by decide +kernel), List.mem_of_getElem? (i := 736) (by decide +kernel), List.mem_of_getElem? (i := 737) (by decide +kernel)⟩
theorem lw_p20 : lw_okq (⟨"GroebnerFan$InputText", "signBehindNumber", "()I"⟩, 4) := ⟨⟨by decide +kernel, by decide +kernel⟩, List.mem_of_getElem? (i := 207) (by decide +kernel), List.mem_of_getElem? (i := 771) (by decide +kernel), List.mem_of_getElem? (i := 772) (by decide +kernel)⟩
theorem lw_p21 : lw_okq (⟨"GroebnerFan$InputText", "appendNumber", "(I)V"⟩, 4) := ⟨⟨by decide +kernel, by decide +kernel⟩, List.mem_of_getElem? (i := 207) (by decide +kernel), List.mem_of_getElem? (i := 775) (by decide +kernel), List.mem_of_getElem? (i := 776) (by decide +kernel)⟩
theorem lw_p22 : lw_okq (⟨"GroebnerFan", "writeTerm", "(II)V"⟩, 12) := ⟨⟨by decide +kernel, by decide +kernel⟩, List.mem_of_getElem? (i := 25) (by decide +kernel), List.mem_of_getElem? (i := 842) (by decide +kernel), List.mem_of_getElem? (i := 843) (by decide +kernel)⟩
theorem lw_p23 : lw_okq (⟨"GroebnerFanModel", "clearCurrent", "()V"⟩, 46) := ⟨⟨by decide +kernel, by decide +kernel⟩, List.mem_of_getElem? (i := 1014) (by decide +kernel), List.mem_of_getElem? (i := 1170) (by decide +kernel), List.mem_of_getElem? (i := 1171) (by decide +kernel)⟩
theorem lw_p24 : lw_okq (⟨"GroebnerFanModel", "isPoint", "(I)Z"⟩, 46) := ⟨⟨by decide +kernel, by decide +kernel⟩, List.mem_of_getElem? (i := 1014) (by decide +kernel), List.mem_of_getElem? (i := 1186) (by decide +kernel), List.mem_of_getElem? (i := 1187) (by decide +kernel)⟩
theorem lw_p25 : lw_okq (⟨"GroebnerFanModel", "compute", "(III)V"⟩, 46) := ⟨⟨by decide +kernel, by decide +kernel⟩, List.mem_of_getElem? (i := 1014) (by decide +kernel), List.mem_of_getElem? (i := 1224) (by decide +kernel), List.mem_of_getElem? (i := 1225) (by decide +kernel)⟩
theorem lw_p26 : lw_okq (⟨"GroebnerFanModel", "sort", "(III)V"⟩, 46) := ⟨⟨by decide +kernel, by decide +kernel⟩, List.mem_of_getElem? (i := 1014) (by decide +kernel), List.mem_of_getElem? (i := 1228) (by decide +kernel), List.mem_of_getElem? (i := 1229) (by decide +kernel)⟩
theorem lw_p27 : lw_okq (⟨"GroebnerFanModel", "reduce", "(I)I"⟩, 46) := ⟨⟨by decide +kernel, by decide +kernel⟩, List.mem_of_getElem? (i := 1014) (by decide +kernel), List.mem_of_getElem? (i := 1235) (by decide +kernel), List.mem_of_getElem? (i := 1236) (by decide +kernel)⟩
theorem lw_p28 : lw_okq (⟨"GroebnerFanModel", "power", "(II)I"⟩, 46) := ⟨⟨by decide +kernel, by decide +kernel⟩, List.mem_of_getElem? (i := 1014) (by decide +kernel), List.mem_of_getElem? (i := 1239) (by decide +kernel), List.mem_of_getElem? (i := 1240) (by decide +kernel)⟩
theorem lw_p29 : lw_okq (⟨"GroebnerFanModel", "becomesStandard", "(II)V"⟩, 46) := ⟨⟨by decide +kernel, by decide +kernel⟩, List.mem_of_getElem? (i := 1014) (by decide +kernel), List.mem_of_getElem? (i := 1244) (by decide +kernel), List.mem_of_getElem? (i := 1245) (by decide +kernel)⟩
theorem lw_p30 : lw_okq (⟨"GroebnerFanModel", "inverse", "(I)I"⟩, 46) := ⟨⟨by decide +kernel, by decide +kernel⟩, List.mem_of_getElem? (i := 1014) (by decide +kernel), List.mem_of_getElem? (i := 1248) (by decide +kernel), List.mem_of_getElem? (i := 1249) (by decide +kernel)⟩
theorem lw_p31 : lw_okq (⟨"GroebnerFanModel", "isCorner", "(I)Z"⟩, 46) := ⟨⟨by decide +kernel, by decide +kernel⟩, List.mem_of_getElem? (i := 1014) (by decide +kernel), List.mem_of_getElem? (i := 1252) (by decide +kernel), List.mem_of_getElem? (i := 1253) (by decide +kernel)⟩
def lw_privs_2 : List (MethodName × Nat) := [(⟨"GroebnerFan$Fan", "isBefore", "(ILGroebnerFan$BasisPolynomial;)Z"⟩, 2), (⟨"GroebnerFan$ReducedBasis", "rowLength", "(I)I"⟩, 5), (⟨"GroebnerFan", "replaceByInterpolation", "()I"⟩, 12), (⟨"GroebnerFan", "findSlot", "(I)LGroebnerFan$Slot;"⟩, 12), (⟨"GroebnerFan$InputText", "signBehindNumber", "()I"⟩, 4), (⟨"GroebnerFan$InputText", "appendNumber", "(I)V"⟩, 4), (⟨"GroebnerFan", "writeTerm", "(II)V"⟩, 12), (⟨"GroebnerFanModel", "clearCurrent", "()V"⟩, 46), (⟨"GroebnerFanModel", "isPoint", "(I)Z"⟩, 46), (⟨"GroebnerFanModel", "compute", "(III)V"⟩, 46), (⟨"GroebnerFanModel", "sort", "(III)V"⟩, 46), (⟨"GroebnerFanModel", "reduce", "(I)I"⟩, 46), (⟨"GroebnerFanModel", "power", "(II)I"⟩, 46), (⟨"GroebnerFanModel", "becomesStandard", "(II)V"⟩, 46), (⟨"GroebnerFanModel", "inverse", "(I)I"⟩, 46), (⟨"GroebnerFanModel", "isCorner", "(I)Z"⟩, 46)]
theorem lw_r2 : ∀ q ∈ lw_privs_2, lw_okq q := List.forall_mem_cons.mpr ⟨lw_p16, List.forall_mem_cons.mpr ⟨lw_p17, List.forall_mem_cons.mpr ⟨lw_p18, List.forall_mem_cons.mpr ⟨lw_p19, List.forall_mem_cons.mpr ⟨lw_p20, List.forall_mem_cons.mpr ⟨lw_p21, List.forall_mem_cons.mpr ⟨lw_p22, List.forall_mem_cons.mpr ⟨lw_p23, List.forall_mem_cons.mpr ⟨lw_p24, List.forall_mem_cons.mpr ⟨lw_p25, List.forall_mem_cons.mpr ⟨lw_p26, List.forall_mem_cons.mpr ⟨lw_p27, List.forall_mem_cons.mpr ⟨lw_p28, List.forall_mem_cons.mpr ⟨lw_p29, List.forall_mem_cons.mpr ⟨lw_p30, List.forall_mem_cons.mpr ⟨lw_p31, fun _ h => absurd h List.not_mem_nil⟩⟩⟩⟩⟩⟩⟩⟩⟩⟩⟩⟩⟩⟩⟩⟩
theorem lw_p32 : lw_okq (⟨"GroebnerFanModel", "becomesCorner", "(I)V"⟩, 46) := ⟨⟨by decide +kernel, by decide +kernel⟩, List.mem_of_getElem? (i := 1014) (by decide +kernel), List.mem_of_getElem? (i := 1256) (by decide +kernel), List.mem_of_getElem? (i := 1257) (by decide +kernel)⟩
theorem lw_p33 : lw_okq (⟨"GroebnerFanModel", "sortCorners", "()V"⟩, 46) := ⟨⟨by decide +kernel, by decide +kernel⟩, List.mem_of_getElem? (i := 1014) (by decide +kernel), List.mem_of_getElem? (i := 1260) (by decide +kernel), List.mem_of_getElem? (i := 1261) (by decide +kernel)⟩
theorem lw_p34 : lw_okq (⟨"GroebnerFanModel", "fan", "()V"⟩, 46) := ⟨⟨by decide +kernel, by decide +kernel⟩, List.mem_of_getElem? (i := 1014) (by decide +kernel), List.mem_of_getElem? (i := 1279) (by decide +kernel), List.mem_of_getElem? (i := 1280) (by decide +kernel)⟩
theorem lw_p35 : lw_okq (⟨"GroebnerFanModel", "keep", "(I)V"⟩, 46) := ⟨⟨by decide +kernel, by decide +kernel⟩, List.mem_of_getElem? (i := 1014) (by decide +kernel), List.mem_of_getElem? (i := 1283) (by decide +kernel), List.mem_of_getElem? (i := 1284) (by decide +kernel)⟩
theorem lw_p36 : lw_okq (⟨"GroebnerFanModel", "wall", "(I)V"⟩, 46) := ⟨⟨by decide +kernel, by decide +kernel⟩, List.mem_of_getElem? (i := 1014) (by decide +kernel), List.mem_of_getElem? (i := 1287) (by decide +kernel), List.mem_of_getElem? (i := 1288) (by decide +kernel)⟩
theorem lw_p37 : lw_okq (⟨"GroebnerFanModel", "isCone", "(I)Z"⟩, 46) := ⟨⟨by decide +kernel, by decide +kernel⟩, List.mem_of_getElem? (i := 1014) (by decide +kernel), List.mem_of_getElem? (i := 1298) (by decide +kernel), List.mem_of_getElem? (i := 1299) (by decide +kernel)⟩
theorem lw_p38 : lw_okq (⟨"GroebnerFanModel", "contains", "(III)Z"⟩, 46) := ⟨⟨by decide +kernel, by decide +kernel⟩, List.mem_of_getElem? (i := 1014) (by decide +kernel), List.mem_of_getElem? (i := 1310) (by decide +kernel), List.mem_of_getElem? (i := 1311) (by decide +kernel)⟩
theorem lw_p39 : lw_okq (⟨"GroebnerFanModel", "isBasis", "(II)Z"⟩, 46) := ⟨⟨by decide +kernel, by decide +kernel⟩, List.mem_of_getElem? (i := 1014) (by decide +kernel), List.mem_of_getElem? (i := 1330) (by decide +kernel), List.mem_of_getElem? (i := 1331) (by decide +kernel)⟩
theorem lw_p40 : lw_okq (⟨"GroebnerFanModel", "cell", "(III)I"⟩, 46) := ⟨⟨by decide +kernel, by decide +kernel⟩, List.mem_of_getElem? (i := 1014) (by decide +kernel), List.mem_of_getElem? (i := 1338) (by decide +kernel), List.mem_of_getElem? (i := 1339) (by decide +kernel)⟩
theorem lw_p41 : lw_okq (⟨"GroebnerFanModel", "isNew", "(II)Z"⟩, 46) := ⟨⟨by decide +kernel, by decide +kernel⟩, List.mem_of_getElem? (i := 1014) (by decide +kernel), List.mem_of_getElem? (i := 1350) (by decide +kernel), List.mem_of_getElem? (i := 1351) (by decide +kernel)⟩
theorem lw_p42 : lw_okq (⟨"GroebnerFanModel", "isSame", "(IIII)Z"⟩, 46) := ⟨⟨by decide +kernel, by decide +kernel⟩, List.mem_of_getElem? (i := 1014) (by decide +kernel), List.mem_of_getElem? (i := 1354) (by decide +kernel), List.mem_of_getElem? (i := 1355) (by decide +kernel)⟩
theorem lw_p43 : lw_okq (⟨"GroebnerFanModel", "isMirrored", "(II)Z"⟩, 46) := ⟨⟨by decide +kernel, by decide +kernel⟩, List.mem_of_getElem? (i := 1014) (by decide +kernel), List.mem_of_getElem? (i := 1367) (by decide +kernel), List.mem_of_getElem? (i := 1368) (by decide +kernel)⟩
theorem lw_p44 : lw_okq (⟨"GroebnerFanModel", "steepness", "(I)I"⟩, 46) := ⟨⟨by decide +kernel, by decide +kernel⟩, List.mem_of_getElem? (i := 1014) (by decide +kernel), List.mem_of_getElem? (i := 1375) (by decide +kernel), List.mem_of_getElem? (i := 1376) (by decide +kernel)⟩
theorem lw_p45 : lw_okq (⟨"GroebnerFanModel", "valueAt", "(I)I"⟩, 46) := ⟨⟨by decide +kernel, by decide +kernel⟩, List.mem_of_getElem? (i := 1014) (by decide +kernel), List.mem_of_getElem? (i := 1395) (by decide +kernel), List.mem_of_getElem? (i := 1396) (by decide +kernel)⟩
theorem lw_p46 : lw_okq (⟨"GroebnerFanModel", "solve", "(I)I"⟩, 46) := ⟨⟨by decide +kernel, by decide +kernel⟩, List.mem_of_getElem? (i := 1014) (by decide +kernel), List.mem_of_getElem? (i := 1407) (by decide +kernel), List.mem_of_getElem? (i := 1408) (by decide +kernel)⟩
theorem lw_p47 : lw_okq (⟨"GroebnerFanModel", "setUp", "(I)V"⟩, 46) := ⟨⟨by decide +kernel, by decide +kernel⟩, List.mem_of_getElem? (i := 1014) (by decide +kernel), List.mem_of_getElem? (i := 1411) (by decide +kernel), List.mem_of_getElem? (i := 1412) (by decide +kernel)⟩
def lw_privs_3 : List (MethodName × Nat) := [(⟨"GroebnerFanModel", "becomesCorner", "(I)V"⟩, 46), (⟨"GroebnerFanModel", "sortCorners", "()V"⟩, 46), (⟨"GroebnerFanModel", "fan", "()V"⟩, 46), (⟨"GroebnerFanModel", "keep", "(I)V"⟩, 46), (⟨"GroebnerFanModel", "wall", "(I)V"⟩, 46), (⟨"GroebnerFanModel", "isCone", "(I)Z"⟩, 46), (⟨"GroebnerFanModel", "contains", "(III)Z"⟩, 46), (⟨"GroebnerFanModel", "isBasis", "(II)Z"⟩, 46), (⟨"GroebnerFanModel", "cell", "(III)I"⟩, 46), (⟨"GroebnerFanModel", "isNew", "(II)Z"⟩, 46), (⟨"GroebnerFanModel", "isSame", "(IIII)Z"⟩, 46), (⟨"GroebnerFanModel", "isMirrored", "(II)Z"⟩, 46), (⟨"GroebnerFanModel", "steepness", "(I)I"⟩, 46), (⟨"GroebnerFanModel", "valueAt", "(I)I"⟩, 46), (⟨"GroebnerFanModel", "solve", "(I)I"⟩, 46), (⟨"GroebnerFanModel", "setUp", "(I)V"⟩, 46)]
theorem lw_r3 : ∀ q ∈ lw_privs_3, lw_okq q := List.forall_mem_cons.mpr ⟨lw_p32, List.forall_mem_cons.mpr ⟨lw_p33, List.forall_mem_cons.mpr ⟨lw_p34, List.forall_mem_cons.mpr ⟨lw_p35, List.forall_mem_cons.mpr ⟨lw_p36, List.forall_mem_cons.mpr ⟨lw_p37, List.forall_mem_cons.mpr ⟨lw_p38, List.forall_mem_cons.mpr ⟨lw_p39, List.forall_mem_cons.mpr ⟨lw_p40, List.forall_mem_cons.mpr ⟨lw_p41, List.forall_mem_cons.mpr ⟨lw_p42, List.forall_mem_cons.mpr ⟨lw_p43, List.forall_mem_cons.mpr ⟨lw_p44, List.forall_mem_cons.mpr ⟨lw_p45, List.forall_mem_cons.mpr ⟨lw_p46, List.forall_mem_cons.mpr ⟨lw_p47, fun _ h => absurd h List.not_mem_nil⟩⟩⟩⟩⟩⟩⟩⟩⟩⟩⟩⟩⟩⟩⟩⟩
theorem lw_p48 : lw_okq (⟨"GroebnerFanModel", "exchange", "(II)V"⟩, 46) := ⟨⟨by decide +kernel, by decide +kernel⟩, List.mem_of_getElem? (i := 1014) (by decide +kernel), List.mem_of_getElem? (i := 1415) (by decide +kernel), List.mem_of_getElem? (i := 1416) (by decide +kernel)⟩
theorem lw_p49 : lw_okq (⟨"GroebnerFanModel", "takesList", "(Z)I"⟩, 46) := ⟨⟨by decide +kernel, by decide +kernel⟩, List.mem_of_getElem? (i := 1014) (by decide +kernel), List.mem_of_getElem? (i := 1443) (by decide +kernel), List.mem_of_getElem? (i := 1444) (by decide +kernel)⟩
theorem lw_p50 : lw_okq (⟨"GroebnerFanModel", "takesPoint", "(Z)I"⟩, 46) := ⟨⟨by decide +kernel, by decide +kernel⟩, List.mem_of_getElem? (i := 1014) (by decide +kernel), List.mem_of_getElem? (i := 1447) (by decide +kernel), List.mem_of_getElem? (i := 1448) (by decide +kernel)⟩
theorem lw_p51 : lw_okq (⟨"GroebnerFanModel", "takesNumber", "()Z"⟩, 46) := ⟨⟨by decide +kernel, by decide +kernel⟩, List.mem_of_getElem? (i := 1014) (by decide +kernel), List.mem_of_getElem? (i := 1451) (by decide +kernel), List.mem_of_getElem? (i := 1452) (by decide +kernel)⟩
theorem lw_p52 : lw_okq (⟨"GroebnerFanModel", "isAt", "(II)Z"⟩, 46) := ⟨⟨by decide +kernel, by decide +kernel⟩, List.mem_of_getElem? (i := 1014) (by decide +kernel), List.mem_of_getElem? (i := 1455) (by decide +kernel), List.mem_of_getElem? (i := 1456) (by decide +kernel)⟩
theorem lw_p53 : lw_okq (⟨"GroebnerFanModel", "writeTerm", "(II)V"⟩, 46) := ⟨⟨by decide +kernel, by decide +kernel⟩, List.mem_of_getElem? (i := 1014) (by decide +kernel), List.mem_of_getElem? (i := 1464) (by decide +kernel), List.mem_of_getElem? (i := 1465) (by decide +kernel)⟩
theorem lw_p54 : lw_okq (⟨"GroebnerFanModel", "write", "(I)V"⟩, 46) := ⟨⟨by decide +kernel, by decide +kernel⟩, List.mem_of_getElem? (i := 1014) (by decide +kernel), List.mem_of_getElem? (i := 1468) (by decide +kernel), List.mem_of_getElem? (i := 1469) (by decide +kernel)⟩
theorem lw_p55 : lw_okq (⟨"GroebnerFanModel", "amiss", "(II)I"⟩, 46) := ⟨⟨by decide +kernel, by decide +kernel⟩, List.mem_of_getElem? (i := 1014) (by decide +kernel), List.mem_of_getElem? (i := 1488) (by decide +kernel), List.mem_of_getElem? (i := 1489) (by decide +kernel)⟩
def lw_privs_4 : List (MethodName × Nat) := [(⟨"GroebnerFanModel", "exchange", "(II)V"⟩, 46), (⟨"GroebnerFanModel", "takesList", "(Z)I"⟩, 46), (⟨"GroebnerFanModel", "takesPoint", "(Z)I"⟩, 46), (⟨"GroebnerFanModel", "takesNumber", "()Z"⟩, 46), (⟨"GroebnerFanModel", "isAt", "(II)Z"⟩, 46), (⟨"GroebnerFanModel", "writeTerm", "(II)V"⟩, 46), (⟨"GroebnerFanModel", "write", "(I)V"⟩, 46), (⟨"GroebnerFanModel", "amiss", "(II)I"⟩, 46)]
theorem lw_r4 : ∀ q ∈ lw_privs_4, lw_okq q := List.forall_mem_cons.mpr ⟨lw_p48, List.forall_mem_cons.mpr ⟨lw_p49, List.forall_mem_cons.mpr ⟨lw_p50, List.forall_mem_cons.mpr ⟨lw_p51, List.forall_mem_cons.mpr ⟨lw_p52, List.forall_mem_cons.mpr ⟨lw_p53, List.forall_mem_cons.mpr ⟨lw_p54, List.forall_mem_cons.mpr ⟨lw_p55, fun _ h => absurd h List.not_mem_nil⟩⟩⟩⟩⟩⟩⟩⟩
def lw_privs : List (MethodName × Nat) := lw_privs_1 ++ (lw_privs_2 ++ (lw_privs_3 ++ (lw_privs_4)))
def lw_tbl : List Cond := k2_sels lw_privs ++ tables_1
theorem lw_privs_ok : ∀ q ∈ lw_privs, lw_okq q := by
  show ∀ q ∈ lw_privs_1 ++ (lw_privs_2 ++ (lw_privs_3 ++ (lw_privs_4))), lw_okq q
  exact List.forall_mem_append.mpr ⟨lw_r1, List.forall_mem_append.mpr ⟨lw_r2, List.forall_mem_append.mpr ⟨lw_r3, lw_r4⟩⟩⟩
def RX0 : String := "GroebnerFan$BasisPolynomial"
def TX0 : u_T := fun k => match k with
  | 0 => ("GroebnerFan$BasisPolynomial", "corner", "I", false)
  | 1 => ("GroebnerFan$BasisPolynomial", "size", "I", false)
  | 2 => ("GroebnerFan$BasisPolynomial", "monomials", "[I", true)
  | _ => ("GroebnerFan$BasisPolynomial", "factors", "[I", true)
def tyX0 : Nat → FieldType := fun k => match k with
  | 0 => .int
  | 1 => .int
  | 2 => .array .int
  | _ => .array .int
abbrev wsX00 : List Cond := u_ws RX0 TX0 4
theorem nmX0 : ∀ a, a < 4 → ∀ b, b < 4 → a ≠ b → (TX0 a).2.1 ≠ (TX0 b).2.1 := by decide +kernel
theorem tyX0_ok : ∀ k, k < 4 → parseFieldDescriptor (TX0 k).2.2.1 = some (tyX0 k) := by decide +kernel
abbrev cX0_init : ByteArray := prog_2_method_1_code
def yX0_init : MethodName := ⟨RX0, "<init>", "()V"⟩
abbrev cX0_take : ByteArray := prog_2_method_2_code
def yX0_take : MethodName := ⟨RX0, "take", "(ILGroebnerFan$Elimination;)V"⟩
abbrev cX0_insertTerm : ByteArray := prog_2_method_3_code
def yX0_insertTerm : MethodName := ⟨RX0, "insertTerm", "(II)V"⟩
abbrev cX0_factorOf : ByteArray := prog_2_method_4_code
def yX0_factorOf : MethodName := ⟨RX0, "factorOf", "(I)I"⟩
abbrev cX0_hasTermsOf : ByteArray := prog_2_method_5_code
def yX0_hasTermsOf : MethodName := ⟨RX0, "hasTermsOf", "(LGroebnerFan$BasisPolynomial;)Z"⟩
abbrev cX0_degree : ByteArray := prog_2_method_6_code
def yX0_degree : MethodName := ⟨RX0, "degree", "()I"⟩
def RX1 : String := "GroebnerFan$Elimination"
def TX1 : u_T := fun k => match k with
  | 0 => ("GroebnerFan$Elimination", "points", "LGroebnerFan$Points;", true)
  | 1 => ("GroebnerFan$Elimination", "rows", "[[I", true)
  | 2 => ("GroebnerFan$Elimination", "origins", "[[I", true)
  | 3 => ("GroebnerFan$Elimination", "pivots", "[I", true)
  | 4 => ("GroebnerFan$Elimination", "size", "I", false)
  | 5 => ("GroebnerFan$Elimination", "monomials", "[I", true)
  | 6 => ("GroebnerFan$Elimination", "values", "[I", true)
  | _ => ("GroebnerFan$Elimination", "combination", "[I", true)
def tyX1 : Nat → FieldType := fun k => match k with
  | 0 => .object "GroebnerFan$Points"
  | 1 => .array (.array .int)
  | 2 => .array (.array .int)
  | 3 => .array .int
  | 4 => .int
  | 5 => .array .int
  | 6 => .array .int
  | _ => .array .int
abbrev wsX10 : List Cond := u_ws RX1 TX1 8
theorem nmX1 : ∀ a, a < 8 → ∀ b, b < 8 → a ≠ b → (TX1 a).2.1 ≠ (TX1 b).2.1 := by decide +kernel
theorem tyX1_ok : ∀ k, k < 8 → parseFieldDescriptor (TX1 k).2.2.1 = some (tyX1 k) := by decide +kernel
abbrev cX1_init : ByteArray := prog_3_method_1_code
def yX1_init : MethodName := ⟨RX1, "<init>", "(LGroebnerFan$Points;)V"⟩
abbrev cX1_restart : ByteArray := prog_3_method_2_code
def yX1_restart : MethodName := ⟨RX1, "restart", "()V"⟩
abbrev cX1_keepStandardMonomials : ByteArray := prog_3_method_3_code
def yX1_keepStandardMonomials : MethodName := ⟨RX1, "keepStandardMonomials", "(LGroebnerFan$ReducedBasis;)V"⟩
abbrev cX1_keepIfIndependent : ByteArray := prog_3_method_4_code
def yX1_keepIfIndependent : MethodName := ⟨RX1, "keepIfIndependent", "(I)Z"⟩
abbrev cX1_reduceValues : ByteArray := prog_3_method_5_code
def yX1_reduceValues : MethodName := ⟨RX1, "reduceValues", "()V"⟩
abbrev cX1_addMultiple : ByteArray := prog_3_method_6_code
def yX1_addMultiple : MethodName := ⟨RX1, "addMultiple", "([I[II)V"⟩
abbrev cX1_firstNonzeroValue : ByteArray := prog_3_method_7_code
def yX1_firstNonzeroValue : MethodName := ⟨RX1, "firstNonzeroValue", "()I"⟩
abbrev cX1_keepValues : ByteArray := prog_3_method_8_code
def yX1_keepValues : MethodName := ⟨RX1, "keepValues", "(II)V"⟩
def RX2 : String := "GroebnerFan$Fan"
def TX2 : u_T := fun k => match k with
  | 0 => ("GroebnerFan$Fan", "size", "I", false)
  | _ => ("GroebnerFan$Fan", "cones", "[LGroebnerFan$ReducedBasis;", true)
def tyX2 : Nat → FieldType := fun k => match k with
  | 0 => .int
  | _ => .array (.object "GroebnerFan$ReducedBasis")
abbrev wsX20 : List Cond := u_ws RX2 TX2 2
theorem nmX2 : ∀ a, a < 2 → ∀ b, b < 2 → a ≠ b → (TX2 a).2.1 ≠ (TX2 b).2.1 := by decide +kernel
theorem tyX2_ok : ∀ k, k < 2 → parseFieldDescriptor (TX2 k).2.2.1 = some (tyX2 k) := by decide +kernel
abbrev cX2_init : ByteArray := prog_4_method_1_code
def yX2_init : MethodName := ⟨RX2, "<init>", "()V"⟩
abbrev cX2_forget : ByteArray := prog_4_method_2_code
def yX2_forget : MethodName := ⟨RX2, "forget", "()V"⟩
abbrev cX2_find : ByteArray := prog_4_method_3_code
def yX2_find : MethodName := ⟨RX2, "find", "(I)LGroebnerFan$ReducedBasis;"⟩
abbrev cX2_refresh : ByteArray := prog_4_method_4_code
def yX2_refresh : MethodName := ⟨RX2, "refresh", "(LGroebnerFan$Order;LGroebnerFan$Elimination;)V"⟩
abbrev cX2_firstWithin : ByteArray := prog_4_method_5_code
def yX2_firstWithin : MethodName := ⟨RX2, "firstWithin", "(II)I"⟩
abbrev cX2_countDistinctPolynomials : ByteArray := prog_4_method_6_code
def yX2_countDistinctPolynomials : MethodName := ⟨RX2, "countDistinctPolynomials", "()I"⟩
abbrev cX2_isBefore : ByteArray := prog_4_method_7_code
def yX2_isBefore : MethodName := ⟨RX2, "isBefore", "(ILGroebnerFan$BasisPolynomial;)Z"⟩
abbrev cX2_greatestDegree : ByteArray := prog_4_method_8_code
def yX2_greatestDegree : MethodName := ⟨RX2, "greatestDegree", "()I"⟩
abbrev cX2_firstMirrorOf : ByteArray := prog_4_method_9_code
def yX2_firstMirrorOf : MethodName := ⟨RX2, "firstMirrorOf", "(LGroebnerFan$ReducedBasis;)I"⟩
abbrev cX2_firstFlattest : ByteArray := prog_4_method_10_code
def yX2_firstFlattest : MethodName := ⟨RX2, "firstFlattest", "()I"⟩
def RX3 : String := "GroebnerFan$InputText"
def TX3 : u_T := fun k => match k with
  | 0 => ("GroebnerFan$InputText", "length", "I", false)
  | 1 => ("GroebnerFan$InputText", "bytes", "[B", true)
  | 2 => ("GroebnerFan$InputText", "numberCount", "I", false)
  | _ => ("GroebnerFan$InputText", "numbers", "[I", true)
def tyX3 : Nat → FieldType := fun k => match k with
  | 0 => .int
  | 1 => .array .byte
  | 2 => .int
  | _ => .array .int
abbrev wsX30 : List Cond := u_ws RX3 TX3 4
theorem nmX3 : ∀ a, a < 4 → ∀ b, b < 4 → a ≠ b → (TX3 a).2.1 ≠ (TX3 b).2.1 := by decide +kernel
theorem tyX3_ok : ∀ k, k < 4 → parseFieldDescriptor (TX3 k).2.2.1 = some (tyX3 k) := by decide +kernel
abbrev cX3_init : ByteArray := prog_5_method_1_code
def yX3_init : MethodName := ⟨RX3, "<init>", "()V"⟩
abbrev cX3_append : ByteArray := prog_5_method_2_code
def yX3_append : MethodName := ⟨RX3, "append", "(I)V"⟩
abbrev cX3_readNumbers : ByteArray := prog_5_method_3_code
def yX3_readNumbers : MethodName := ⟨RX3, "readNumbers", "()I"⟩
abbrev cX3_isDigit : ByteArray := prog_5_method_4_code
def yX3_isDigit : MethodName := ⟨RX3, "isDigit", "(I)Z"⟩
abbrev cX3_signBehindNumber : ByteArray := prog_5_method_5_code
def yX3_signBehindNumber : MethodName := ⟨RX3, "signBehindNumber", "()I"⟩
abbrev cX3_appendNumber : ByteArray := prog_5_method_6_code
def yX3_appendNumber : MethodName := ⟨RX3, "appendNumber", "(I)V"⟩
def RX4 : String := "GroebnerFan$Order"
def TX4 : u_T := fun k => match k with
  | 0 => ("GroebnerFan$Order", "u", "I", false)
  | 1 => ("GroebnerFan$Order", "v", "I", false)
  | _ => ("GroebnerFan$Order", "tie", "I", false)
def tyX4 : Nat → FieldType := fun k => match k with
  | 0 => .int
  | 1 => .int
  | _ => .int
abbrev wsX40 : List Cond := u_ws RX4 TX4 3
theorem nmX4 : ∀ a, a < 3 → ∀ b, b < 3 → a ≠ b → (TX4 a).2.1 ≠ (TX4 b).2.1 := by decide +kernel
theorem tyX4_ok : ∀ k, k < 3 → parseFieldDescriptor (TX4 k).2.2.1 = some (tyX4 k) := by decide +kernel
abbrev cX4_init : ByteArray := prog_6_method_1_code
def yX4_init : MethodName := ⟨RX4, "<init>", "()V"⟩
abbrev cX4_choose : ByteArray := prog_6_method_2_code
def yX4_choose : MethodName := ⟨RX4, "choose", "(III)V"⟩
abbrev cX4_isSmaller : ByteArray := prog_6_method_3_code
def yX4_isSmaller : MethodName := ⟨RX4, "isSmaller", "(II)Z"⟩
abbrev cX4_weightOf : ByteArray := prog_6_method_4_code
def yX4_weightOf : MethodName := ⟨RX4, "weightOf", "(I)I"⟩
def RX5 : String := "GroebnerFan$Points"
def TX5 : u_T := fun k => match k with
  | 0 => ("GroebnerFan$Points", "modulus", "I", false)
  | 1 => ("GroebnerFan$Points", "size", "I", false)
  | 2 => ("GroebnerFan$Points", "xs", "[I", true)
  | _ => ("GroebnerFan$Points", "ys", "[I", true)
def tyX5 : Nat → FieldType := fun k => match k with
  | 0 => .int
  | 1 => .int
  | 2 => .array .int
  | _ => .array .int
abbrev wsX50 : List Cond := u_ws RX5 TX5 4
theorem nmX5 : ∀ a, a < 4 → ∀ b, b < 4 → a ≠ b → (TX5 a).2.1 ≠ (TX5 b).2.1 := by decide +kernel
theorem tyX5_ok : ∀ k, k < 4 → parseFieldDescriptor (TX5 k).2.2.1 = some (tyX5 k) := by decide +kernel
abbrev cX5_init : ByteArray := prog_7_method_1_code
def yX5_init : MethodName := ⟨RX5, "<init>", "()V"⟩
abbrev cX5_restart : ByteArray := prog_7_method_2_code
def yX5_restart : MethodName := ⟨RX5, "restart", "(I)V"⟩
abbrev cX5_copyFrom : ByteArray := prog_7_method_3_code
def yX5_copyFrom : MethodName := ⟨RX5, "copyFrom", "(LGroebnerFan$Points;)V"⟩
abbrev cX5_isResidue : ByteArray := prog_7_method_4_code
def yX5_isResidue : MethodName := ⟨RX5, "isResidue", "(I)Z"⟩
abbrev cX5_residue : ByteArray := prog_7_method_5_code
def yX5_residue : MethodName := ⟨RX5, "residue", "(I)I"⟩
abbrev cX5_inverse : ByteArray := prog_7_method_6_code
def yX5_inverse : MethodName := ⟨RX5, "inverse", "(I)I"⟩
abbrev cX5_hasIndex : ByteArray := prog_7_method_7_code
def yX5_hasIndex : MethodName := ⟨RX5, "hasIndex", "(I)Z"⟩
abbrev cX5_holds : ByteArray := prog_7_method_8_code
def yX5_holds : MethodName := ⟨RX5, "holds", "(II)Z"⟩
abbrev cX5_append : ByteArray := prog_7_method_9_code
def yX5_append : MethodName := ⟨RX5, "append", "(II)V"⟩
abbrev cX5_remove : ByteArray := prog_7_method_10_code
def yX5_remove : MethodName := ⟨RX5, "remove", "(I)V"⟩
abbrev cX5_isSymmetric : ByteArray := prog_7_method_11_code
def yX5_isSymmetric : MethodName := ⟨RX5, "isSymmetric", "()Z"⟩
abbrev cX5_mirror : ByteArray := prog_7_method_12_code
def yX5_mirror : MethodName := ⟨RX5, "mirror", "()V"⟩
abbrev cX5_transform : ByteArray := prog_7_method_13_code
def yX5_transform : MethodName := ⟨RX5, "transform", "(IIII)V"⟩
abbrev cX5_monomialAt : ByteArray := prog_7_method_14_code
def yX5_monomialAt : MethodName := ⟨RX5, "monomialAt", "(II)I"⟩
abbrev cX5_power : ByteArray := prog_7_method_15_code
def yX5_power : MethodName := ⟨RX5, "power", "(II)I"⟩
def RX6 : String := "GroebnerFan$Polynomial"
def TX6 : u_T := fun k => match k with
  | _ => ("GroebnerFan$Polynomial", "factors", "[I", true)
def tyX6 : Nat → FieldType := fun k => match k with
  | _ => .array .int
abbrev wsX60 : List Cond := u_ws RX6 TX6 1
theorem nmX6 : ∀ a, a < 1 → ∀ b, b < 1 → a ≠ b → (TX6 a).2.1 ≠ (TX6 b).2.1 := by decide +kernel
theorem tyX6_ok : ∀ k, k < 1 → parseFieldDescriptor (TX6 k).2.2.1 = some (tyX6 k) := by decide +kernel
abbrev cX6_init : ByteArray := prog_8_method_1_code
def yX6_init : MethodName := ⟨RX6, "<init>", "()V"⟩
abbrev cX6_clear : ByteArray := prog_8_method_2_code
def yX6_clear : MethodName := ⟨RX6, "clear", "()V"⟩
abbrev cX6_copyFrom : ByteArray := prog_8_method_3_code
def yX6_copyFrom : MethodName := ⟨RX6, "copyFrom", "(LGroebnerFan$Polynomial;)V"⟩
abbrev cX6_countTerms : ByteArray := prog_8_method_4_code
def yX6_countTerms : MethodName := ⟨RX6, "countTerms", "()I"⟩
abbrev cX6_valueAt : ByteArray := prog_8_method_5_code
def yX6_valueAt : MethodName := ⟨RX6, "valueAt", "(LGroebnerFan$Points;I)I"⟩
def RX7 : String := "GroebnerFan$ReducedBasis"
def TX7 : u_T := fun k => match k with
  | 0 => ("GroebnerFan$ReducedBasis", "heights", "[I", true)
  | 1 => ("GroebnerFan$ReducedBasis", "size", "I", false)
  | 2 => ("GroebnerFan$ReducedBasis", "polynomials", "[LGroebnerFan$BasisPolynomial;", true)
  | 3 => ("GroebnerFan$ReducedBasis", "wallTop", "I", false)
  | _ => ("GroebnerFan$ReducedBasis", "wallBottom", "I", false)
def tyX7 : Nat → FieldType := fun k => match k with
  | 0 => .array .int
  | 1 => .int
  | 2 => .array (.object "GroebnerFan$BasisPolynomial")
  | 3 => .int
  | _ => .int
abbrev wsX70 : List Cond := u_ws RX7 TX7 5
theorem nmX7 : ∀ a, a < 5 → ∀ b, b < 5 → a ≠ b → (TX7 a).2.1 ≠ (TX7 b).2.1 := by decide +kernel
theorem tyX7_ok : ∀ k, k < 5 → parseFieldDescriptor (TX7 k).2.2.1 = some (tyX7 k) := by decide +kernel
abbrev cX7_init : ByteArray := prog_9_method_1_code
def yX7_init : MethodName := ⟨RX7, "<init>", "()V"⟩
abbrev cX7_find : ByteArray := prog_9_method_2_code
def yX7_find : MethodName := ⟨RX7, "find", "(I)LGroebnerFan$BasisPolynomial;"⟩
abbrev cX7_compute : ByteArray := prog_9_method_3_code
def yX7_compute : MethodName := ⟨RX7, "compute", "(LGroebnerFan$Order;LGroebnerFan$Elimination;)V"⟩
abbrev cX7_topOf : ByteArray := prog_9_method_4_code
def yX7_topOf : MethodName := ⟨RX7, "topOf", "(I)I"⟩
abbrev cX7_nextColumn : ByteArray := prog_9_method_5_code
def yX7_nextColumn : MethodName := ⟨RX7, "nextColumn", "(LGroebnerFan$Order;)I"⟩
abbrev cX7_isClosed : ByteArray := prog_9_method_6_code
def yX7_isClosed : MethodName := ⟨RX7, "isClosed", "(I)Z"⟩
abbrev cX7_insertCorner : ByteArray := prog_9_method_7_code
def yX7_insertCorner : MethodName := ⟨RX7, "insertCorner", "(ILGroebnerFan$Elimination;)V"⟩
abbrev cX7_findWall : ByteArray := prog_9_method_8_code
def yX7_findWall : MethodName := ⟨RX7, "findWall", "()V"⟩
abbrev cX7_lowerWall : ByteArray := prog_9_method_9_code
def yX7_lowerWall : MethodName := ⟨RX7, "lowerWall", "(LGroebnerFan$BasisPolynomial;)V"⟩
abbrev cX7_hasWall : ByteArray := prog_9_method_10_code
def yX7_hasWall : MethodName := ⟨RX7, "hasWall", "()Z"⟩
abbrev cX7_hasAboveWall : ByteArray := prog_9_method_11_code
def yX7_hasAboveWall : MethodName := ⟨RX7, "hasAboveWall", "(II)Z"⟩
abbrev cX7_hasOnWall : ByteArray := prog_9_method_12_code
def yX7_hasOnWall : MethodName := ⟨RX7, "hasOnWall", "(II)Z"⟩
abbrev cX7_countCornersOutside : ByteArray := prog_9_method_13_code
def yX7_countCornersOutside : MethodName := ⟨RX7, "countCornersOutside", "(LGroebnerFan$ReducedBasis;)I"⟩
abbrev cX7_hasCorner : ByteArray := prog_9_method_14_code
def yX7_hasCorner : MethodName := ⟨RX7, "hasCorner", "(I)Z"⟩
abbrev cX7_holdsTermsOf : ByteArray := prog_9_method_15_code
def yX7_holdsTermsOf : MethodName := ⟨RX7, "holdsTermsOf", "(LGroebnerFan$BasisPolynomial;)Z"⟩
abbrev cX7_isMirrorOf : ByteArray := prog_9_method_16_code
def yX7_isMirrorOf : MethodName := ⟨RX7, "isMirrorOf", "(LGroebnerFan$ReducedBasis;)Z"⟩
abbrev cX7_rowLength : ByteArray := prog_9_method_17_code
def yX7_rowLength : MethodName := ⟨RX7, "rowLength", "(I)I"⟩
abbrev cX7_standardDegree : ByteArray := prog_9_method_18_code
def yX7_standardDegree : MethodName := ⟨RX7, "standardDegree", "()I"⟩
def RX8 : String := "GroebnerFan$Slot"
def TX8 : u_T := fun k => match k with
  | 0 => ("GroebnerFan$Slot", "kind", "I", false)
  | 1 => ("GroebnerFan$Slot", "length", "I", false)
  | _ => ("GroebnerFan$Slot", "numbers", "[I", true)
def tyX8 : Nat → FieldType := fun k => match k with
  | 0 => .int
  | 1 => .int
  | _ => .array .int
abbrev wsX80 : List Cond := u_ws RX8 TX8 3
theorem nmX8 : ∀ a, a < 3 → ∀ b, b < 3 → a ≠ b → (TX8 a).2.1 ≠ (TX8 b).2.1 := by decide +kernel
theorem tyX8_ok : ∀ k, k < 3 → parseFieldDescriptor (TX8 k).2.2.1 = some (tyX8 k) := by decide +kernel
abbrev cX8_init : ByteArray := prog_10_method_1_code
def yX8_init : MethodName := ⟨RX8, "<init>", "()V"⟩
abbrev cX8_holdZeros : ByteArray := prog_10_method_2_code
def yX8_holdZeros : MethodName := ⟨RX8, "holdZeros", "(I)V"⟩
abbrev cX8_holdPolynomial : ByteArray := prog_10_method_3_code
def yX8_holdPolynomial : MethodName := ⟨RX8, "holdPolynomial", "(LGroebnerFan$Polynomial;)V"⟩
abbrev cX8_errorForArrays : ByteArray := prog_10_method_4_code
def yX8_errorForArrays : MethodName := ⟨RX8, "errorForArrays", "()I"⟩
def RX9 : String := "GroebnerFan"
def TX9 : u_T := fun k => match k with
  | 0 => ("GroebnerFan", "points", "LGroebnerFan$Points;", true)
  | 1 => ("GroebnerFan", "current", "LGroebnerFan$Polynomial;", true)
  | 2 => ("GroebnerFan", "savedPoints", "LGroebnerFan$Points;", true)
  | 3 => ("GroebnerFan", "savedPolynomial", "LGroebnerFan$Polynomial;", true)
  | 4 => ("GroebnerFan", "isSaved", "Z", false)
  | 5 => ("GroebnerFan", "elimination", "LGroebnerFan$Elimination;", true)
  | 6 => ("GroebnerFan", "order", "LGroebnerFan$Order;", true)
  | 7 => ("GroebnerFan", "orderBasis", "LGroebnerFan$ReducedBasis;", true)
  | 8 => ("GroebnerFan", "fan", "LGroebnerFan$Fan;", true)
  | 9 => ("GroebnerFan", "input", "LGroebnerFan$InputText;", true)
  | 10 => ("GroebnerFan", "output", "Ljava/lang/StringBuilder;", true)
  | _ => ("GroebnerFan", "slots", "[LGroebnerFan$Slot;", true)
def tyX9 : Nat → FieldType := fun k => match k with
  | 0 => .object "GroebnerFan$Points"
  | 1 => .object "GroebnerFan$Polynomial"
  | 2 => .object "GroebnerFan$Points"
  | 3 => .object "GroebnerFan$Polynomial"
  | 4 => .boolean
  | 5 => .object "GroebnerFan$Elimination"
  | 6 => .object "GroebnerFan$Order"
  | 7 => .object "GroebnerFan$ReducedBasis"
  | 8 => .object "GroebnerFan$Fan"
  | 9 => .object "GroebnerFan$InputText"
  | 10 => .object "java/lang/StringBuilder"
  | _ => .array (.object "GroebnerFan$Slot")
abbrev wsX90 : List Cond := u_ws RX9 TX9 12
theorem nmX9 : ∀ a, a < 12 → ∀ b, b < 12 → a ≠ b → (TX9 a).2.1 ≠ (TX9 b).2.1 := by decide +kernel
theorem tyX9_ok : ∀ k, k < 12 → parseFieldDescriptor (TX9 k).2.2.1 = some (tyX9 k) := by decide +kernel
abbrev cX9_init : ByteArray := prog_1_method_1_code
def yX9_init : MethodName := ⟨RX9, "<init>", "()V"⟩
abbrev cX9_setPrime : ByteArray := prog_1_method_2_code
def yX9_setPrime : MethodName := ⟨RX9, "setPrime", "(I)I"⟩
abbrev cX9_prime : ByteArray := prog_1_method_3_code
def yX9_prime : MethodName := ⟨RX9, "prime", "()I"⟩
abbrev cX9_addPoint : ByteArray := prog_1_method_4_code
def yX9_addPoint : MethodName := ⟨RX9, "addPoint", "(II)I"⟩
abbrev cX9_removePoint : ByteArray := prog_1_method_5_code
def yX9_removePoint : MethodName := ⟨RX9, "removePoint", "(I)I"⟩
abbrev cX9_pointCount : ByteArray := prog_1_method_6_code
def yX9_pointCount : MethodName := ⟨RX9, "pointCount", "()I"⟩
abbrev cX9_pointX : ByteArray := prog_1_method_7_code
def yX9_pointX : MethodName := ⟨RX9, "pointX", "(I)I"⟩
abbrev cX9_pointY : ByteArray := prog_1_method_8_code
def yX9_pointY : MethodName := ⟨RX9, "pointY", "(I)I"⟩
abbrev cX9_swapCoordinates : ByteArray := prog_1_method_9_code
def yX9_swapCoordinates : MethodName := ⟨RX9, "swapCoordinates", "()I"⟩
abbrev cX9_translate : ByteArray := prog_1_method_10_code
def yX9_translate : MethodName := ⟨RX9, "translate", "(II)I"⟩
abbrev cX9_scale : ByteArray := prog_1_method_11_code
def yX9_scale : MethodName := ⟨RX9, "scale", "(II)I"⟩
abbrev cX9_columnHeight : ByteArray := prog_1_method_12_code
def yX9_columnHeight : MethodName := ⟨RX9, "columnHeight", "(IIII)I"⟩
abbrev cX9_cornerCount : ByteArray := prog_1_method_13_code
def yX9_cornerCount : MethodName := ⟨RX9, "cornerCount", "(III)I"⟩
abbrev cX9_corner : ByteArray := prog_1_method_14_code
def yX9_corner : MethodName := ⟨RX9, "corner", "(IIII)I"⟩
abbrev cX9_coneCount : ByteArray := prog_1_method_15_code
def yX9_coneCount : MethodName := ⟨RX9, "coneCount", "()I"⟩
abbrev cX9_wallNumerator : ByteArray := prog_1_method_16_code
def yX9_wallNumerator : MethodName := ⟨RX9, "wallNumerator", "(I)I"⟩
abbrev cX9_wallDenominator : ByteArray := prog_1_method_17_code
def yX9_wallDenominator : MethodName := ⟨RX9, "wallDenominator", "(I)I"⟩
abbrev cX9_firstConeContaining : ByteArray := prog_1_method_18_code
def yX9_firstConeContaining : MethodName := ⟨RX9, "firstConeContaining", "(II)I"⟩
abbrev cX9_conesContaining : ByteArray := prog_1_method_19_code
def yX9_conesContaining : MethodName := ⟨RX9, "conesContaining", "(II)I"⟩
abbrev cX9_coneHeight : ByteArray := prog_1_method_20_code
def yX9_coneHeight : MethodName := ⟨RX9, "coneHeight", "(II)I"⟩
abbrev cX9_basisSize : ByteArray := prog_1_method_21_code
def yX9_basisSize : MethodName := ⟨RX9, "basisSize", "(I)I"⟩
abbrev cX9_basisCorner : ByteArray := prog_1_method_22_code
def yX9_basisCorner : MethodName := ⟨RX9, "basisCorner", "(II)I"⟩
abbrev cX9_basisCoefficient : ByteArray := prog_1_method_23_code
def yX9_basisCoefficient : MethodName := ⟨RX9, "basisCoefficient", "(IIII)I"⟩
abbrev cX9_changedCorners : ByteArray := prog_1_method_24_code
def yX9_changedCorners : MethodName := ⟨RX9, "changedCorners", "(I)I"⟩
abbrev cX9_universalSize : ByteArray := prog_1_method_25_code
def yX9_universalSize : MethodName := ⟨RX9, "universalSize", "()I"⟩
abbrev cX9_universalDegree : ByteArray := prog_1_method_26_code
def yX9_universalDegree : MethodName := ⟨RX9, "universalDegree", "()I"⟩
abbrev cX9_mirroredCone : ByteArray := prog_1_method_27_code
def yX9_mirroredCone : MethodName := ⟨RX9, "mirroredCone", "(I)I"⟩
abbrev cX9_flattestCone : ByteArray := prog_1_method_28_code
def yX9_flattestCone : MethodName := ⟨RX9, "flattestCone", "()I"⟩
abbrev cX9_setCoefficient : ByteArray := prog_1_method_29_code
def yX9_setCoefficient : MethodName := ⟨RX9, "setCoefficient", "(III)I"⟩
abbrev cX9_coefficient : ByteArray := prog_1_method_30_code
def yX9_coefficient : MethodName := ⟨RX9, "coefficient", "(II)I"⟩
abbrev cX9_termCount : ByteArray := prog_1_method_31_code
def yX9_termCount : MethodName := ⟨RX9, "termCount", "()I"⟩
abbrev cX9_evaluate : ByteArray := prog_1_method_32_code
def yX9_evaluate : MethodName := ⟨RX9, "evaluate", "(I)I"⟩
abbrev cX9_isVanishing : ByteArray := prog_1_method_33_code
def yX9_isVanishing : MethodName := ⟨RX9, "isVanishing", "()I"⟩
abbrev cX9_reduceToNormalForm : ByteArray := prog_1_method_34_code
def yX9_reduceToNormalForm : MethodName := ⟨RX9, "reduceToNormalForm", "(I)I"⟩
abbrev cX9_interpolate : ByteArray := prog_1_method_35_code
def yX9_interpolate : MethodName := ⟨RX9, "interpolate", "(II)I"⟩
abbrev cX9_loadBasisPolynomial : ByteArray := prog_1_method_36_code
def yX9_loadBasisPolynomial : MethodName := ⟨RX9, "loadBasisPolynomial", "(II)I"⟩
abbrev cX9_appendInput : ByteArray := prog_1_method_37_code
def yX9_appendInput : MethodName := ⟨RX9, "appendInput", "(I)I"⟩
abbrev cX9_inputLength : ByteArray := prog_1_method_38_code
def yX9_inputLength : MethodName := ⟨RX9, "inputLength", "()I"⟩
abbrev cX9_parsePoints : ByteArray := prog_1_method_39_code
def yX9_parsePoints : MethodName := ⟨RX9, "parsePoints", "()I"⟩
abbrev cX9_format : ByteArray := prog_1_method_40_code
def yX9_format : MethodName := ⟨RX9, "format", "(II)I"⟩
abbrev cX9_outputByte : ByteArray := prog_1_method_41_code
def yX9_outputByte : MethodName := ⟨RX9, "outputByte", "(I)I"⟩
abbrev cX9_newArray : ByteArray := prog_1_method_42_code
def yX9_newArray : MethodName := ⟨RX9, "newArray", "(II)I"⟩
abbrev cX9_setElement : ByteArray := prog_1_method_43_code
def yX9_setElement : MethodName := ⟨RX9, "setElement", "(III)I"⟩
abbrev cX9_element : ByteArray := prog_1_method_44_code
def yX9_element : MethodName := ⟨RX9, "element", "(II)I"⟩
abbrev cX9_storePolynomial : ByteArray := prog_1_method_45_code
def yX9_storePolynomial : MethodName := ⟨RX9, "storePolynomial", "(I)I"⟩
abbrev cX9_loadPolynomial : ByteArray := prog_1_method_46_code
def yX9_loadPolynomial : MethodName := ⟨RX9, "loadPolynomial", "(I)I"⟩
abbrev cX9_clearSlot : ByteArray := prog_1_method_47_code
def yX9_clearSlot : MethodName := ⟨RX9, "clearSlot", "(I)I"⟩
abbrev cX9_firstDifference : ByteArray := prog_1_method_48_code
def yX9_firstDifference : MethodName := ⟨RX9, "firstDifference", "(II)I"⟩
abbrev cX9_saveSnapshot : ByteArray := prog_1_method_49_code
def yX9_saveSnapshot : MethodName := ⟨RX9, "saveSnapshot", "()I"⟩
abbrev cX9_restoreSnapshot : ByteArray := prog_1_method_50_code
def yX9_restoreSnapshot : MethodName := ⟨RX9, "restoreSnapshot", "()I"⟩
abbrev cX9_isAllowedPrime : ByteArray := prog_1_method_51_code
def yX9_isAllowedPrime : MethodName := ⟨RX9, "isAllowedPrime", "(I)Z"⟩
abbrev cX9_isExponent : ByteArray := prog_1_method_52_code
def yX9_isExponent : MethodName := ⟨RX9, "isExponent", "(I)Z"⟩
abbrev cX9_isWeight : ByteArray := prog_1_method_53_code
def yX9_isWeight : MethodName := ⟨RX9, "isWeight", "(II)Z"⟩
abbrev cX9_isOrder : ByteArray := prog_1_method_54_code
def yX9_isOrder : MethodName := ⟨RX9, "isOrder", "(III)Z"⟩
abbrev cX9_decimalExponents : ByteArray := prog_1_method_55_code
def yX9_decimalExponents : MethodName := ⟨RX9, "decimalExponents", "(I)I"⟩
abbrev cX9_computeOrder : ByteArray := prog_1_method_56_code
def yX9_computeOrder : MethodName := ⟨RX9, "computeOrder", "(III)V"⟩
abbrev cX9_findCone : ByteArray := prog_1_method_57_code
def yX9_findCone : MethodName := ⟨RX9, "findCone", "(I)LGroebnerFan$ReducedBasis;"⟩
abbrev cX9_findBasisPolynomial : ByteArray := prog_1_method_58_code
def yX9_findBasisPolynomial : MethodName := ⟨RX9, "findBasisPolynomial", "(II)LGroebnerFan$BasisPolynomial;"⟩
abbrev cX9_findSlot : ByteArray := prog_1_method_59_code
def yX9_findSlot : MethodName := ⟨RX9, "findSlot", "(I)LGroebnerFan$Slot;"⟩
abbrev cX9_replaceByInterpolation : ByteArray := prog_1_method_60_code
def yX9_replaceByInterpolation : MethodName := ⟨RX9, "replaceByInterpolation", "()I"⟩
abbrev cX9_writeTerm : ByteArray := prog_1_method_61_code
def yX9_writeTerm : MethodName := ⟨RX9, "writeTerm", "(II)V"⟩
def RX10 : String := "GroebnerFanModel"
def TX10 : u_T := fun k => match k with
  | 0 => ("GroebnerFanModel", "p", "I", false)
  | 1 => ("GroebnerFanModel", "points", "I", false)
  | 2 => ("GroebnerFanModel", "xs", "[I", true)
  | 3 => ("GroebnerFanModel", "ys", "[I", true)
  | 4 => ("GroebnerFanModel", "current", "[I", true)
  | 5 => ("GroebnerFanModel", "isFanKnown", "Z", false)
  | 6 => ("GroebnerFanModel", "order", "[I", true)
  | 7 => ("GroebnerFanModel", "isStandard", "[Z", true)
  | 8 => ("GroebnerFanModel", "standards", "I", false)
  | 9 => ("GroebnerFanModel", "standard", "[I", true)
  | 10 => ("GroebnerFanModel", "reduced", "[I", true)
  | 11 => ("GroebnerFanModel", "combined", "[I", true)
  | 12 => ("GroebnerFanModel", "pivots", "[I", true)
  | 13 => ("GroebnerFanModel", "vector", "[I", true)
  | 14 => ("GroebnerFanModel", "factors", "[I", true)
  | 15 => ("GroebnerFanModel", "heights", "[I", true)
  | 16 => ("GroebnerFanModel", "corners", "I", false)
  | 17 => ("GroebnerFanModel", "corner", "[I", true)
  | 18 => ("GroebnerFanModel", "polynomials", "[I", true)
  | 19 => ("GroebnerFanModel", "cones", "I", false)
  | 20 => ("GroebnerFanModel", "tops", "[I", true)
  | 21 => ("GroebnerFanModel", "bottoms", "[I", true)
  | 22 => ("GroebnerFanModel", "sizes", "[I", true)
  | 23 => ("GroebnerFanModel", "coneHeights", "[I", true)
  | 24 => ("GroebnerFanModel", "coneCorners", "[I", true)
  | 25 => ("GroebnerFanModel", "coneCells", "[I", true)
  | 26 => ("GroebnerFanModel", "wanted", "[I", true)
  | 27 => ("GroebnerFanModel", "system", "[I", true)
  | 28 => ("GroebnerFanModel", "unknowns", "[I", true)
  | 29 => ("GroebnerFanModel", "input", "[I", true)
  | 30 => ("GroebnerFanModel", "length", "I", false)
  | 31 => ("GroebnerFanModel", "end", "I", false)
  | 32 => ("GroebnerFanModel", "at", "I", false)
  | 33 => ("GroebnerFanModel", "number", "I", false)
  | 34 => ("GroebnerFanModel", "output", "[I", true)
  | 35 => ("GroebnerFanModel", "written", "I", false)
  | 36 => ("GroebnerFanModel", "kinds", "[I", true)
  | 37 => ("GroebnerFanModel", "lengths", "[I", true)
  | 38 => ("GroebnerFanModel", "elements", "[I", true)
  | 39 => ("GroebnerFanModel", "stored", "[I", true)
  | 40 => ("GroebnerFanModel", "isSaved", "Z", false)
  | 41 => ("GroebnerFanModel", "savedPrime", "I", false)
  | 42 => ("GroebnerFanModel", "savedPoints", "I", false)
  | 43 => ("GroebnerFanModel", "savedXs", "[I", true)
  | 44 => ("GroebnerFanModel", "savedYs", "[I", true)
  | _ => ("GroebnerFanModel", "savedCells", "[I", true)
def tyX10 : Nat → FieldType := fun k => match k with
  | 0 => .int
  | 1 => .int
  | 2 => .array .int
  | 3 => .array .int
  | 4 => .array .int
  | 5 => .boolean
  | 6 => .array .int
  | 7 => .array .boolean
  | 8 => .int
  | 9 => .array .int
  | 10 => .array .int
  | 11 => .array .int
  | 12 => .array .int
  | 13 => .array .int
  | 14 => .array .int
  | 15 => .array .int
  | 16 => .int
  | 17 => .array .int
  | 18 => .array .int
  | 19 => .int
  | 20 => .array .int
  | 21 => .array .int
  | 22 => .array .int
  | 23 => .array .int
  | 24 => .array .int
  | 25 => .array .int
  | 26 => .array .int
  | 27 => .array .int
  | 28 => .array .int
  | 29 => .array .int
  | 30 => .int
  | 31 => .int
  | 32 => .int
  | 33 => .int
  | 34 => .array .int
  | 35 => .int
  | 36 => .array .int
  | 37 => .array .int
  | 38 => .array .int
  | 39 => .array .int
  | 40 => .boolean
  | 41 => .int
  | 42 => .int
  | 43 => .array .int
  | 44 => .array .int
  | _ => .array .int
abbrev wsX100 : List Cond := u_ws RX10 TX10 46
theorem nmX10 : ∀ a, a < 46 → ∀ b, b < 46 → a ≠ b → (TX10 a).2.1 ≠ (TX10 b).2.1 := by decide +kernel
theorem tyX10_ok : ∀ k, k < 46 → parseFieldDescriptor (TX10 k).2.2.1 = some (tyX10 k) := by decide +kernel
abbrev cX10_init : ByteArray := prog_12_method_1_code
def yX10_init : MethodName := ⟨RX10, "<init>", "()V"⟩
abbrev cX10_isIn : ByteArray := prog_12_method_2_code
def yX10_isIn : MethodName := ⟨RX10, "isIn", "(III)Z"⟩
abbrev cX10_isPoint : ByteArray := prog_12_method_3_code
def yX10_isPoint : MethodName := ⟨RX10, "isPoint", "(I)Z"⟩
abbrev cX10_isExponent : ByteArray := prog_12_method_4_code
def yX10_isExponent : MethodName := ⟨RX10, "isExponent", "(I)Z"⟩
abbrev cX10_power : ByteArray := prog_12_method_5_code
def yX10_power : MethodName := ⟨RX10, "power", "(II)I"⟩
abbrev cX10_inverse : ByteArray := prog_12_method_6_code
def yX10_inverse : MethodName := ⟨RX10, "inverse", "(I)I"⟩
abbrev cX10_isPrime : ByteArray := prog_12_method_7_code
def yX10_isPrime : MethodName := ⟨RX10, "isPrime", "(I)Z"⟩
abbrev cX10_clearCurrent : ByteArray := prog_12_method_8_code
def yX10_clearCurrent : MethodName := ⟨RX10, "clearCurrent", "()V"⟩
abbrev cX10_setPrime : ByteArray := prog_12_method_9_code
def yX10_setPrime : MethodName := ⟨RX10, "setPrime", "(I)I"⟩
abbrev cX10_prime : ByteArray := prog_12_method_10_code
def yX10_prime : MethodName := ⟨RX10, "prime", "()I"⟩
abbrev cX10_addPoint : ByteArray := prog_12_method_11_code
def yX10_addPoint : MethodName := ⟨RX10, "addPoint", "(II)I"⟩
abbrev cX10_removePoint : ByteArray := prog_12_method_12_code
def yX10_removePoint : MethodName := ⟨RX10, "removePoint", "(I)I"⟩
abbrev cX10_pointCount : ByteArray := prog_12_method_13_code
def yX10_pointCount : MethodName := ⟨RX10, "pointCount", "()I"⟩
abbrev cX10_pointX : ByteArray := prog_12_method_14_code
def yX10_pointX : MethodName := ⟨RX10, "pointX", "(I)I"⟩
abbrev cX10_pointY : ByteArray := prog_12_method_15_code
def yX10_pointY : MethodName := ⟨RX10, "pointY", "(I)I"⟩
abbrev cX10_swapCoordinates : ByteArray := prog_12_method_16_code
def yX10_swapCoordinates : MethodName := ⟨RX10, "swapCoordinates", "()I"⟩
abbrev cX10_translate : ByteArray := prog_12_method_17_code
def yX10_translate : MethodName := ⟨RX10, "translate", "(II)I"⟩
abbrev cX10_scale : ByteArray := prog_12_method_18_code
def yX10_scale : MethodName := ⟨RX10, "scale", "(II)I"⟩
abbrev cX10_isGreater : ByteArray := prog_12_method_19_code
def yX10_isGreater : MethodName := ⟨RX10, "isGreater", "(IIIII)Z"⟩
abbrev cX10_sort : ByteArray := prog_12_method_20_code
def yX10_sort : MethodName := ⟨RX10, "sort", "(III)V"⟩
abbrev cX10_reduce : ByteArray := prog_12_method_21_code
def yX10_reduce : MethodName := ⟨RX10, "reduce", "(I)I"⟩
abbrev cX10_becomesStandard : ByteArray := prog_12_method_22_code
def yX10_becomesStandard : MethodName := ⟨RX10, "becomesStandard", "(II)V"⟩
abbrev cX10_becomesCorner : ByteArray := prog_12_method_23_code
def yX10_becomesCorner : MethodName := ⟨RX10, "becomesCorner", "(I)V"⟩
abbrev cX10_isCorner : ByteArray := prog_12_method_24_code
def yX10_isCorner : MethodName := ⟨RX10, "isCorner", "(I)Z"⟩
abbrev cX10_compute : ByteArray := prog_12_method_25_code
def yX10_compute : MethodName := ⟨RX10, "compute", "(III)V"⟩
abbrev cX10_sortCorners : ByteArray := prog_12_method_26_code
def yX10_sortCorners : MethodName := ⟨RX10, "sortCorners", "()V"⟩
abbrev cX10_isWeight : ByteArray := prog_12_method_27_code
def yX10_isWeight : MethodName := ⟨RX10, "isWeight", "(II)Z"⟩
abbrev cX10_columnHeight : ByteArray := prog_12_method_28_code
def yX10_columnHeight : MethodName := ⟨RX10, "columnHeight", "(IIII)I"⟩
abbrev cX10_cornerCount : ByteArray := prog_12_method_29_code
def yX10_cornerCount : MethodName := ⟨RX10, "cornerCount", "(III)I"⟩
abbrev cX10_exponents : ByteArray := prog_12_method_30_code
def yX10_exponents : MethodName := ⟨RX10, "exponents", "(I)I"⟩
abbrev cX10_corner : ByteArray := prog_12_method_31_code
def yX10_corner : MethodName := ⟨RX10, "corner", "(IIII)I"⟩
abbrev cX10_divisor : ByteArray := prog_12_method_32_code
def yX10_divisor : MethodName := ⟨RX10, "divisor", "(II)I"⟩
abbrev cX10_wall : ByteArray := prog_12_method_33_code
def yX10_wall : MethodName := ⟨RX10, "wall", "(I)V"⟩
abbrev cX10_keep : ByteArray := prog_12_method_34_code
def yX10_keep : MethodName := ⟨RX10, "keep", "(I)V"⟩
abbrev cX10_fan : ByteArray := prog_12_method_35_code
def yX10_fan : MethodName := ⟨RX10, "fan", "()V"⟩
abbrev cX10_isCone : ByteArray := prog_12_method_36_code
def yX10_isCone : MethodName := ⟨RX10, "isCone", "(I)Z"⟩
abbrev cX10_isBasis : ByteArray := prog_12_method_37_code
def yX10_isBasis : MethodName := ⟨RX10, "isBasis", "(II)Z"⟩
abbrev cX10_cell : ByteArray := prog_12_method_38_code
def yX10_cell : MethodName := ⟨RX10, "cell", "(III)I"⟩
abbrev cX10_coneCount : ByteArray := prog_12_method_39_code
def yX10_coneCount : MethodName := ⟨RX10, "coneCount", "()I"⟩
abbrev cX10_wallNumerator : ByteArray := prog_12_method_40_code
def yX10_wallNumerator : MethodName := ⟨RX10, "wallNumerator", "(I)I"⟩
abbrev cX10_wallDenominator : ByteArray := prog_12_method_41_code
def yX10_wallDenominator : MethodName := ⟨RX10, "wallDenominator", "(I)I"⟩
abbrev cX10_contains : ByteArray := prog_12_method_42_code
def yX10_contains : MethodName := ⟨RX10, "contains", "(III)Z"⟩
abbrev cX10_firstConeContaining : ByteArray := prog_12_method_43_code
def yX10_firstConeContaining : MethodName := ⟨RX10, "firstConeContaining", "(II)I"⟩
abbrev cX10_conesContaining : ByteArray := prog_12_method_44_code
def yX10_conesContaining : MethodName := ⟨RX10, "conesContaining", "(II)I"⟩
abbrev cX10_coneHeight : ByteArray := prog_12_method_45_code
def yX10_coneHeight : MethodName := ⟨RX10, "coneHeight", "(II)I"⟩
abbrev cX10_basisSize : ByteArray := prog_12_method_46_code
def yX10_basisSize : MethodName := ⟨RX10, "basisSize", "(I)I"⟩
abbrev cX10_basisCorner : ByteArray := prog_12_method_47_code
def yX10_basisCorner : MethodName := ⟨RX10, "basisCorner", "(II)I"⟩
abbrev cX10_basisCoefficient : ByteArray := prog_12_method_48_code
def yX10_basisCoefficient : MethodName := ⟨RX10, "basisCoefficient", "(IIII)I"⟩
abbrev cX10_changedCorners : ByteArray := prog_12_method_49_code
def yX10_changedCorners : MethodName := ⟨RX10, "changedCorners", "(I)I"⟩
abbrev cX10_isSame : ByteArray := prog_12_method_50_code
def yX10_isSame : MethodName := ⟨RX10, "isSame", "(IIII)Z"⟩
abbrev cX10_isNew : ByteArray := prog_12_method_51_code
def yX10_isNew : MethodName := ⟨RX10, "isNew", "(II)Z"⟩
abbrev cX10_universalSize : ByteArray := prog_12_method_52_code
def yX10_universalSize : MethodName := ⟨RX10, "universalSize", "()I"⟩
abbrev cX10_universalDegree : ByteArray := prog_12_method_53_code
def yX10_universalDegree : MethodName := ⟨RX10, "universalDegree", "()I"⟩
abbrev cX10_isMirrored : ByteArray := prog_12_method_54_code
def yX10_isMirrored : MethodName := ⟨RX10, "isMirrored", "(II)Z"⟩
abbrev cX10_mirroredCone : ByteArray := prog_12_method_55_code
def yX10_mirroredCone : MethodName := ⟨RX10, "mirroredCone", "(I)I"⟩
abbrev cX10_steepness : ByteArray := prog_12_method_56_code
def yX10_steepness : MethodName := ⟨RX10, "steepness", "(I)I"⟩
abbrev cX10_flattestCone : ByteArray := prog_12_method_57_code
def yX10_flattestCone : MethodName := ⟨RX10, "flattestCone", "()I"⟩
abbrev cX10_setCoefficient : ByteArray := prog_12_method_58_code
def yX10_setCoefficient : MethodName := ⟨RX10, "setCoefficient", "(III)I"⟩
abbrev cX10_coefficient : ByteArray := prog_12_method_59_code
def yX10_coefficient : MethodName := ⟨RX10, "coefficient", "(II)I"⟩
abbrev cX10_termCount : ByteArray := prog_12_method_60_code
def yX10_termCount : MethodName := ⟨RX10, "termCount", "()I"⟩
abbrev cX10_valueAt : ByteArray := prog_12_method_61_code
def yX10_valueAt : MethodName := ⟨RX10, "valueAt", "(I)I"⟩
abbrev cX10_evaluate : ByteArray := prog_12_method_62_code
def yX10_evaluate : MethodName := ⟨RX10, "evaluate", "(I)I"⟩
abbrev cX10_isVanishing : ByteArray := prog_12_method_63_code
def yX10_isVanishing : MethodName := ⟨RX10, "isVanishing", "()I"⟩
abbrev cX10_setUp : ByteArray := prog_12_method_64_code
def yX10_setUp : MethodName := ⟨RX10, "setUp", "(I)V"⟩
abbrev cX10_exchange : ByteArray := prog_12_method_65_code
def yX10_exchange : MethodName := ⟨RX10, "exchange", "(II)V"⟩
abbrev cX10_solve : ByteArray := prog_12_method_66_code
def yX10_solve : MethodName := ⟨RX10, "solve", "(I)I"⟩
abbrev cX10_reduceToNormalForm : ByteArray := prog_12_method_67_code
def yX10_reduceToNormalForm : MethodName := ⟨RX10, "reduceToNormalForm", "(I)I"⟩
abbrev cX10_interpolate : ByteArray := prog_12_method_68_code
def yX10_interpolate : MethodName := ⟨RX10, "interpolate", "(II)I"⟩
abbrev cX10_loadBasisPolynomial : ByteArray := prog_12_method_69_code
def yX10_loadBasisPolynomial : MethodName := ⟨RX10, "loadBasisPolynomial", "(II)I"⟩
abbrev cX10_appendInput : ByteArray := prog_12_method_70_code
def yX10_appendInput : MethodName := ⟨RX10, "appendInput", "(I)I"⟩
abbrev cX10_inputLength : ByteArray := prog_12_method_71_code
def yX10_inputLength : MethodName := ⟨RX10, "inputLength", "()I"⟩
abbrev cX10_isAt : ByteArray := prog_12_method_72_code
def yX10_isAt : MethodName := ⟨RX10, "isAt", "(II)Z"⟩
abbrev cX10_takesNumber : ByteArray := prog_12_method_73_code
def yX10_takesNumber : MethodName := ⟨RX10, "takesNumber", "()Z"⟩
abbrev cX10_takesPoint : ByteArray := prog_12_method_74_code
def yX10_takesPoint : MethodName := ⟨RX10, "takesPoint", "(Z)I"⟩
abbrev cX10_takesList : ByteArray := prog_12_method_75_code
def yX10_takesList : MethodName := ⟨RX10, "takesList", "(Z)I"⟩
abbrev cX10_parsePoints : ByteArray := prog_12_method_76_code
def yX10_parsePoints : MethodName := ⟨RX10, "parsePoints", "()I"⟩
abbrev cX10_write : ByteArray := prog_12_method_77_code
def yX10_write : MethodName := ⟨RX10, "write", "(I)V"⟩
abbrev cX10_writeTerm : ByteArray := prog_12_method_78_code
def yX10_writeTerm : MethodName := ⟨RX10, "writeTerm", "(II)V"⟩
abbrev cX10_format : ByteArray := prog_12_method_79_code
def yX10_format : MethodName := ⟨RX10, "format", "(II)I"⟩
abbrev cX10_outputByte : ByteArray := prog_12_method_80_code
def yX10_outputByte : MethodName := ⟨RX10, "outputByte", "(I)I"⟩
abbrev cX10_isSlot : ByteArray := prog_12_method_81_code
def yX10_isSlot : MethodName := ⟨RX10, "isSlot", "(I)Z"⟩
abbrev cX10_newArray : ByteArray := prog_12_method_82_code
def yX10_newArray : MethodName := ⟨RX10, "newArray", "(II)I"⟩
abbrev cX10_amiss : ByteArray := prog_12_method_83_code
def yX10_amiss : MethodName := ⟨RX10, "amiss", "(II)I"⟩
abbrev cX10_setElement : ByteArray := prog_12_method_84_code
def yX10_setElement : MethodName := ⟨RX10, "setElement", "(III)I"⟩
abbrev cX10_element : ByteArray := prog_12_method_85_code
def yX10_element : MethodName := ⟨RX10, "element", "(II)I"⟩
abbrev cX10_storePolynomial : ByteArray := prog_12_method_86_code
def yX10_storePolynomial : MethodName := ⟨RX10, "storePolynomial", "(I)I"⟩
abbrev cX10_loadPolynomial : ByteArray := prog_12_method_87_code
def yX10_loadPolynomial : MethodName := ⟨RX10, "loadPolynomial", "(I)I"⟩
abbrev cX10_clearSlot : ByteArray := prog_12_method_88_code
def yX10_clearSlot : MethodName := ⟨RX10, "clearSlot", "(I)I"⟩
abbrev cX10_firstDifference : ByteArray := prog_12_method_89_code
def yX10_firstDifference : MethodName := ⟨RX10, "firstDifference", "(II)I"⟩
abbrev cX10_saveSnapshot : ByteArray := prog_12_method_90_code
def yX10_saveSnapshot : MethodName := ⟨RX10, "saveSnapshot", "()I"⟩
abbrev cX10_restoreSnapshot : ByteArray := prog_12_method_91_code
def yX10_restoreSnapshot : MethodName := ⟨RX10, "restoreSnapshot", "()I"⟩
def RJx145de : String := "java/io/Serializable"
def TJx145de : u_T := fun k => match k with
  | _ => ("", "", "", false)
def tyJx145de : Nat → FieldType := fun k => match k with
  | _ => .int
abbrev wsJx145de0 : List Cond := u_ws RJx145de TJx145de 0
theorem nmJx145de : ∀ a, a < 0 → ∀ b, b < 0 → a ≠ b → (TJx145de a).2.1 ≠ (TJx145de b).2.1 := by decide +kernel
theorem tyJx145de_ok : ∀ k, k < 0 → parseFieldDescriptor (TJx145de k).2.2.1 = some (tyJx145de k) := by decide +kernel
def RJ5 : String := "java/lang/AbstractStringBuilder"
def TJ5 : u_T := fun k => match k with
  | _ => ("", "", "", false)
def tyJ5 : Nat → FieldType := fun k => match k with
  | _ => .int
abbrev wsJ50 : List Cond := u_ws RJ5 TJ5 0
theorem nmJ5 : ∀ a, a < 0 → ∀ b, b < 0 → a ≠ b → (TJ5 a).2.1 ≠ (TJ5 b).2.1 := by decide +kernel
theorem tyJ5_ok : ∀ k, k < 0 → parseFieldDescriptor (TJ5 k).2.2.1 = some (tyJ5 k) := by decide +kernel
abbrev cJ5_init_d00df : ByteArray := prog_13_method_2_code
def yJ5_init_d00df : MethodName := ⟨RJ5, "<init>", "(I)V"⟩
abbrev cJ5_length_8abf5 : ByteArray := prog_13_method_6_code
def yJ5_length_8abf5 : MethodName := ⟨RJ5, "length", "()I"⟩
abbrev cJ5_ensureCapacityInternal_d00df : ByteArray := prog_13_method_9_code
def yJ5_ensureCapacityInternal_d00df : MethodName := ⟨RJ5, "ensureCapacityInternal", "(I)V"⟩
abbrev cJ5_newCapacity_0f7a4 : ByteArray := prog_13_method_10_code
def yJ5_newCapacity_0f7a4 : MethodName := ⟨RJ5, "newCapacity", "(I)I"⟩
abbrev cJ5_inflate_da8c8 : ByteArray := prog_13_method_11_code
def yJ5_inflate_da8c8 : MethodName := ⟨RJ5, "inflate", "()V"⟩
abbrev cJ5_setLength_d00df : ByteArray := prog_13_method_13_code
def yJ5_setLength_d00df : MethodName := ⟨RJ5, "setLength", "(I)V"⟩
abbrev cJ5_charAt_5068e : ByteArray := prog_13_method_14_code
def yJ5_charAt_5068e : MethodName := ⟨RJ5, "charAt", "(I)C"⟩
abbrev cJ5_append_3fe6f : ByteArray := prog_13_method_31_code
def yJ5_append_3fe6f : MethodName := ⟨RJ5, "append", "(C)Ljava/lang/AbstractStringBuilder;"⟩
abbrev cJ5_append_c97b9 : ByteArray := prog_13_method_32_code
def yJ5_append_c97b9 : MethodName := ⟨RJ5, "append", "(I)Ljava/lang/AbstractStringBuilder;"⟩
abbrev cJ5_isLatin1_aae02 : ByteArray := prog_13_method_68_code
def yJ5_isLatin1_aae02 : MethodName := ⟨RJ5, "isLatin1", "()Z"⟩
def RJx2cfe8 : String := "java/lang/Appendable"
def TJx2cfe8 : u_T := fun k => match k with
  | _ => ("", "", "", false)
def tyJx2cfe8 : Nat → FieldType := fun k => match k with
  | _ => .int
abbrev wsJx2cfe80 : List Cond := u_ws RJx2cfe8 TJx2cfe8 0
theorem nmJx2cfe8 : ∀ a, a < 0 → ∀ b, b < 0 → a ≠ b → (TJx2cfe8 a).2.1 ≠ (TJx2cfe8 b).2.1 := by decide +kernel
theorem tyJx2cfe8_ok : ∀ k, k < 0 → parseFieldDescriptor (TJx2cfe8 k).2.2.1 = some (tyJx2cfe8 k) := by decide +kernel
def RJx9f9b0 : String := "java/lang/CharSequence"
def TJx9f9b0 : u_T := fun k => match k with
  | _ => ("", "", "", false)
def tyJx9f9b0 : Nat → FieldType := fun k => match k with
  | _ => .int
abbrev wsJx9f9b00 : List Cond := u_ws RJx9f9b0 TJx9f9b0 0
theorem nmJx9f9b0 : ∀ a, a < 0 → ∀ b, b < 0 → a ≠ b → (TJx9f9b0 a).2.1 ≠ (TJx9f9b0 b).2.1 := by decide +kernel
theorem tyJx9f9b0_ok : ∀ k, k < 0 → parseFieldDescriptor (TJx9f9b0 k).2.2.1 = some (tyJx9f9b0 k) := by decide +kernel
def RJx8e188 : String := "java/lang/Cloneable"
def TJx8e188 : u_T := fun k => match k with
  | _ => ("", "", "", false)
def tyJx8e188 : Nat → FieldType := fun k => match k with
  | _ => .int
abbrev wsJx8e1880 : List Cond := u_ws RJx8e188 TJx8e188 0
theorem nmJx8e188 : ∀ a, a < 0 → ∀ b, b < 0 → a ≠ b → (TJx8e188 a).2.1 ≠ (TJx8e188 b).2.1 := by decide +kernel
theorem tyJx8e188_ok : ∀ k, k < 0 → parseFieldDescriptor (TJx8e188 k).2.2.1 = some (tyJx8e188 k) := by decide +kernel
def RJxb160c : String := "java/lang/Comparable"
def TJxb160c : u_T := fun k => match k with
  | _ => ("", "", "", false)
def tyJxb160c : Nat → FieldType := fun k => match k with
  | _ => .int
abbrev wsJxb160c0 : List Cond := u_ws RJxb160c TJxb160c 0
theorem nmJxb160c : ∀ a, a < 0 → ∀ b, b < 0 → a ≠ b → (TJxb160c a).2.1 ≠ (TJxb160c b).2.1 := by decide +kernel
theorem tyJxb160c_ok : ∀ k, k < 0 → parseFieldDescriptor (TJxb160c k).2.2.1 = some (tyJxb160c k) := by decide +kernel
def RJ6 : String := "java/lang/Integer"
def TJ6 : u_T := fun k => match k with
  | _ => ("", "", "", false)
def tyJ6 : Nat → FieldType := fun k => match k with
  | _ => .int
abbrev wsJ60 : List Cond := u_ws RJ6 TJ6 0
theorem nmJ6 : ∀ a, a < 0 → ∀ b, b < 0 → a ≠ b → (TJ6 a).2.1 ≠ (TJ6 b).2.1 := by decide +kernel
theorem tyJ6_ok : ∀ k, k < 0 → parseFieldDescriptor (TJ6 k).2.2.1 = some (tyJ6 k) := by decide +kernel
abbrev cJ6_getChars_ba4f3 : ByteArray := prog_15_method_12_code
def yJ6_getChars_ba4f3 : MethodName := ⟨RJ6, "getChars", "(II[B)I"⟩
abbrev cJ6_stringSize_0f7a4 : ByteArray := prog_15_method_13_code
def yJ6_stringSize_0f7a4 : MethodName := ⟨RJ6, "stringSize", "(I)I"⟩
def RJ9 : String := "java/lang/Math"
def TJ9 : u_T := fun k => match k with
  | _ => ("", "", "", false)
def tyJ9 : Nat → FieldType := fun k => match k with
  | _ => .int
abbrev wsJ90 : List Cond := u_ws RJ9 TJ9 0
theorem nmJ9 : ∀ a, a < 0 → ∀ b, b < 0 → a ≠ b → (TJ9 a).2.1 ≠ (TJ9 b).2.1 := by decide +kernel
theorem tyJ9_ok : ∀ k, k < 0 → parseFieldDescriptor (TJ9 k).2.2.1 = some (tyJ9 k) := by decide +kernel
abbrev cJ9_floorMod_7cf53 : ByteArray := prog_16_method_50_code
def yJ9_floorMod_7cf53 : MethodName := ⟨RJ9, "floorMod", "(II)I"⟩
abbrev cJ9_max_7cf53 : ByteArray := prog_16_method_65_code
def yJ9_max_7cf53 : MethodName := ⟨RJ9, "max", "(II)I"⟩
abbrev cJ9_min_7cf53 : ByteArray := prog_16_method_69_code
def yJ9_min_7cf53 : MethodName := ⟨RJ9, "min", "(II)I"⟩
def RJxd2413 : String := "java/lang/Number"
def TJxd2413 : u_T := fun k => match k with
  | _ => ("", "", "", false)
def tyJxd2413 : Nat → FieldType := fun k => match k with
  | _ => .int
abbrev wsJxd24130 : List Cond := u_ws RJxd2413 TJxd2413 0
theorem nmJxd2413 : ∀ a, a < 0 → ∀ b, b < 0 → a ≠ b → (TJxd2413 a).2.1 ≠ (TJxd2413 b).2.1 := by decide +kernel
theorem tyJxd2413_ok : ∀ k, k < 0 → parseFieldDescriptor (TJxd2413 k).2.2.1 = some (tyJxd2413 k) := by decide +kernel
def RJ0 : String := "java/lang/String"
def TJ0 : u_T := fun k => match k with
  | _ => ("", "", "", false)
def tyJ0 : Nat → FieldType := fun k => match k with
  | _ => .int
abbrev wsJ00 : List Cond := u_ws RJ0 TJ0 0
theorem nmJ0 : ∀ a, a < 0 → ∀ b, b < 0 → a ≠ b → (TJ0 a).2.1 ≠ (TJ0 b).2.1 := by decide +kernel
theorem tyJ0_ok : ∀ k, k < 0 → parseFieldDescriptor (TJ0 k).2.2.1 = some (tyJ0 k) := by decide +kernel
abbrev cJ0_checkIndex_df160 : ByteArray := prog_18_method_155_code
def yJ0_checkIndex_df160 : MethodName := ⟨RJ0, "checkIndex", "(II)V"⟩
abbrev cJ0_checkBoundsOffCount_cabcc : ByteArray := prog_18_method_157_code
def yJ0_checkBoundsOffCount_cabcc : MethodName := ⟨RJ0, "checkBoundsOffCount", "(III)I"⟩
abbrev cJ0_checkBoundsBeginEnd_23922 : ByteArray := prog_18_method_158_code
def yJ0_checkBoundsBeginEnd_23922 : MethodName := ⟨RJ0, "checkBoundsBeginEnd", "(III)V"⟩
def RJ4 : String := "java/lang/StringBuilder"
def TJ4 : u_T := fun k => match k with
  | 0 => ("java/lang/AbstractStringBuilder", "value", "[B", false)
  | 1 => ("java/lang/AbstractStringBuilder", "coder", "B", false)
  | 2 => ("java/lang/AbstractStringBuilder", "maybeLatin1", "Z", false)
  | _ => ("java/lang/AbstractStringBuilder", "count", "I", false)
def tyJ4 : Nat → FieldType := fun k => match k with
  | 0 => .array .byte
  | 1 => .byte
  | 2 => .boolean
  | _ => .int
abbrev wsJ40 : List Cond := u_ws RJ4 TJ4 4
theorem nmJ4 : ∀ a, a < 4 → ∀ b, b < 4 → a ≠ b → (TJ4 a).2.1 ≠ (TJ4 b).2.1 := by decide +kernel
theorem tyJ4_ok : ∀ k, k < 4 → parseFieldDescriptor (TJ4 k).2.2.1 = some (tyJ4 k) := by decide +kernel
abbrev cJ4_init_da8c8 : ByteArray := prog_19_method_1_code
def yJ4_init_da8c8 : MethodName := ⟨RJ4, "<init>", "()V"⟩
abbrev cJ4_append_cf468 : ByteArray := prog_19_method_14_code
def yJ4_append_cf468 : MethodName := ⟨RJ4, "append", "(C)Ljava/lang/StringBuilder;"⟩
abbrev cJ4_append_bf812 : ByteArray := prog_19_method_15_code
def yJ4_append_bf812 : MethodName := ⟨RJ4, "append", "(I)Ljava/lang/StringBuilder;"⟩
abbrev cJ4_charAt_5068e : ByteArray := prog_19_method_88_code
def yJ4_charAt_5068e : MethodName := ⟨RJ4, "charAt", "(I)C"⟩
abbrev cJ4_setLength_d00df : ByteArray := prog_19_method_89_code
def yJ4_setLength_d00df : MethodName := ⟨RJ4, "setLength", "(I)V"⟩
abbrev cJ4_length_8abf5 : ByteArray := prog_19_method_93_code
def yJ4_length_8abf5 : MethodName := ⟨RJ4, "length", "()I"⟩
def RJ1 : String := "java/lang/StringLatin1"
def TJ1 : u_T := fun k => match k with
  | _ => ("", "", "", false)
def tyJ1 : Nat → FieldType := fun k => match k with
  | _ => .int
abbrev wsJ10 : List Cond := u_ws RJ1 TJ1 0
theorem nmJ1 : ∀ a, a < 0 → ∀ b, b < 0 → a ≠ b → (TJ1 a).2.1 ≠ (TJ1 b).2.1 := by decide +kernel
theorem tyJ1_ok : ∀ k, k < 0 → parseFieldDescriptor (TJ1 k).2.2.1 = some (tyJ1 k) := by decide +kernel
abbrev cJ1_canEncode_fc78d : ByteArray := prog_20_method_3_code
def yJ1_canEncode_fc78d : MethodName := ⟨RJ1, "canEncode", "(C)Z"⟩
abbrev cJ1_fillNull_b72d1 : ByteArray := prog_20_method_48_code
def yJ1_fillNull_b72d1 : MethodName := ⟨RJ1, "fillNull", "([BII)V"⟩
abbrev cJ1_inflate_0e8fd : ByteArray := prog_20_method_50_code
def yJ1_inflate_0e8fd : MethodName := ⟨RJ1, "inflate", "([BI[BII)V"⟩
def RJ2 : String := "java/lang/StringUTF16"
def TJ2 : u_T := fun k => match k with
  | _ => ("", "", "", false)
def tyJ2 : Nat → FieldType := fun k => match k with
  | _ => .int
abbrev wsJ20 : List Cond := u_ws RJ2 TJ2 0
theorem nmJ2 : ∀ a, a < 0 → ∀ b, b < 0 → a ≠ b → (TJ2 a).2.1 ≠ (TJ2 b).2.1 := by decide +kernel
theorem tyJ2_ok : ∀ k, k < 0 → parseFieldDescriptor (TJ2 k).2.2.1 = some (tyJ2 k) := by decide +kernel
abbrev cJ2_newBytesFor_77867 : ByteArray := prog_21_method_2_code
def yJ2_newBytesFor_77867 : MethodName := ⟨RJ2, "newBytesFor", "(I)[B"⟩
abbrev cJ2_newBytesLength_0f7a4 : ByteArray := prog_21_method_3_code
def yJ2_newBytesLength_0f7a4 : MethodName := ⟨RJ2, "newBytesLength", "(I)I"⟩
abbrev cJ2_putChar_b72d1 : ByteArray := prog_21_method_4_code
def yJ2_putChar_b72d1 : MethodName := ⟨RJ2, "putChar", "([BII)V"⟩
abbrev cJ2_getChar_3b067 : ByteArray := prog_21_method_5_code
def yJ2_getChar_3b067 : MethodName := ⟨RJ2, "getChar", "([BI)C"⟩
abbrev cJ2_length_9d52b : ByteArray := prog_21_method_6_code
def yJ2_length_9d52b : MethodName := ⟨RJ2, "length", "([B)I"⟩
abbrev cJ2_fillNull_b72d1 : ByteArray := prog_21_method_70_code
def yJ2_fillNull_b72d1 : MethodName := ⟨RJ2, "fillNull", "([BII)V"⟩
abbrev cJ2_putCharSB_b72d1 : ByteArray := prog_21_method_71_code
def yJ2_putCharSB_b72d1 : MethodName := ⟨RJ2, "putCharSB", "([BII)V"⟩
abbrev cJ2_getChars_46870 : ByteArray := prog_21_method_77_code
def yJ2_getChars_46870 : MethodName := ⟨RJ2, "getChars", "(III[B)I"⟩
abbrev cJ2_inflate_0e8fd : ByteArray := prog_21_method_86_code
def yJ2_inflate_0e8fd : MethodName := ⟨RJ2, "inflate", "([BI[BII)V"⟩
abbrev cJ2_getChars_ba4f3 : ByteArray := prog_21_method_89_code
def yJ2_getChars_ba4f3 : MethodName := ⟨RJ2, "getChars", "(II[B)I"⟩
abbrev cJ2_checkIndex_2214a : ByteArray := prog_21_method_91_code
def yJ2_checkIndex_2214a : MethodName := ⟨RJ2, "checkIndex", "(I[B)V"⟩
abbrev cJ2_checkBoundsBeginEnd_d044e : ByteArray := prog_21_method_93_code
def yJ2_checkBoundsBeginEnd_d044e : MethodName := ⟨RJ2, "checkBoundsBeginEnd", "(II[B)V"⟩
abbrev cJ2_checkBoundsOffCount_d044e : ByteArray := prog_21_method_94_code
def yJ2_checkBoundsOffCount_d044e : MethodName := ⟨RJ2, "checkBoundsOffCount", "(II[B)V"⟩
def RJ10 : String := "java/lang/System"
def TJ10 : u_T := fun k => match k with
  | _ => ("", "", "", false)
def tyJ10 : Nat → FieldType := fun k => match k with
  | _ => .int
abbrev wsJ100 : List Cond := u_ws RJ10 TJ10 0
theorem nmJ10 : ∀ a, a < 0 → ∀ b, b < 0 → a ≠ b → (TJ10 a).2.1 ≠ (TJ10 b).2.1 := by decide +kernel
theorem tyJ10_ok : ∀ k, k < 0 → parseFieldDescriptor (TJ10 k).2.2.1 = some (tyJ10 k) := by decide +kernel
def RJxfd54e : String := "java/lang/constant/Constable"
def TJxfd54e : u_T := fun k => match k with
  | _ => ("", "", "", false)
def tyJxfd54e : Nat → FieldType := fun k => match k with
  | _ => .int
abbrev wsJxfd54e0 : List Cond := u_ws RJxfd54e TJxfd54e 0
theorem nmJxfd54e : ∀ a, a < 0 → ∀ b, b < 0 → a ≠ b → (TJxfd54e a).2.1 ≠ (TJxfd54e b).2.1 := by decide +kernel
theorem tyJxfd54e_ok : ∀ k, k < 0 → parseFieldDescriptor (TJxfd54e k).2.2.1 = some (tyJxfd54e k) := by decide +kernel
def RJx3cf43 : String := "java/lang/constant/ConstantDesc"
def TJx3cf43 : u_T := fun k => match k with
  | _ => ("", "", "", false)
def tyJx3cf43 : Nat → FieldType := fun k => match k with
  | _ => .int
abbrev wsJx3cf430 : List Cond := u_ws RJx3cf43 TJx3cf43 0
theorem nmJx3cf43 : ∀ a, a < 0 → ∀ b, b < 0 → a ≠ b → (TJx3cf43 a).2.1 ≠ (TJx3cf43 b).2.1 := by decide +kernel
theorem tyJx3cf43_ok : ∀ k, k < 0 → parseFieldDescriptor (TJx3cf43 k).2.2.1 = some (tyJx3cf43 k) := by decide +kernel
def RJ7 : String := "java/util/Arrays"
def TJ7 : u_T := fun k => match k with
  | _ => ("", "", "", false)
def tyJ7 : Nat → FieldType := fun k => match k with
  | _ => .int
abbrev wsJ70 : List Cond := u_ws RJ7 TJ7 0
theorem nmJ7 : ∀ a, a < 0 → ∀ b, b < 0 → a ≠ b → (TJ7 a).2.1 ≠ (TJ7 b).2.1 := by decide +kernel
theorem tyJ7_ok : ∀ k, k < 0 → parseFieldDescriptor (TJ7 k).2.2.1 = some (tyJ7 k) := by decide +kernel
abbrev cJ7_rangeCheck_23922 : ByteArray := prog_23_method_30_code
def yJ7_rangeCheck_23922 : MethodName := ⟨RJ7, "rangeCheck", "(III)V"⟩
abbrev cJ7_fill_53178 : ByteArray := prog_23_method_103_code
def yJ7_fill_53178 : MethodName := ⟨RJ7, "fill", "([II)V"⟩
abbrev cJ7_fill_eb02e : ByteArray := prog_23_method_110_code
def yJ7_fill_eb02e : MethodName := ⟨RJ7, "fill", "([BIIB)V"⟩
abbrev cJ7_copyOf_9075b : ByteArray := prog_23_method_121_code
def yJ7_copyOf_9075b : MethodName := ⟨RJ7, "copyOf", "([BI)[B"⟩
def RJ8 : String := "jdk/internal/util/ArraysSupport"
def TJ8 : u_T := fun k => match k with
  | _ => ("", "", "", false)
def tyJ8 : Nat → FieldType := fun k => match k with
  | _ => .int
abbrev wsJ80 : List Cond := u_ws RJ8 TJ8 0
theorem nmJ8 : ∀ a, a < 0 → ∀ b, b < 0 → a ≠ b → (TJ8 a).2.1 ≠ (TJ8 b).2.1 := by decide +kernel
theorem tyJ8_ok : ∀ k, k < 0 → parseFieldDescriptor (TJ8 k).2.2.1 = some (tyJ8 k) := by decide +kernel
abbrev cJ8_newLength_cabcc : ByteArray := prog_24_method_27_code
def yJ8_newLength_cabcc : MethodName := ⟨RJ8, "newLength", "(III)I"⟩
abbrev cJ8_hugeLength_7cf53 : ByteArray := prog_24_method_28_code
def yJ8_hugeLength_7cf53 : MethodName := ⟨RJ8, "hugeLength", "(II)I"⟩
def RJ3 : String := "jdk/internal/util/Preconditions"
def TJ3 : u_T := fun k => match k with
  | _ => ("", "", "", false)
def tyJ3 : Nat → FieldType := fun k => match k with
  | _ => .int
abbrev wsJ30 : List Cond := u_ws RJ3 TJ3 0
theorem nmJ3 : ∀ a, a < 0 → ∀ b, b < 0 → a ≠ b → (TJ3 a).2.1 ≠ (TJ3 b).2.1 := by decide +kernel
theorem tyJ3_ok : ∀ k, k < 0 → parseFieldDescriptor (TJ3 k).2.2.1 = some (tyJ3 k) := by decide +kernel
abbrev cJ3_checkIndex_8e157 : ByteArray := prog_25_method_11_code
def yJ3_checkIndex_8e157 : MethodName := ⟨RJ3, "checkIndex", "(IILjava/util/function/BiFunction;)I"⟩
abbrev cJ3_checkFromToIndex_8c36e : ByteArray := prog_25_method_12_code
def yJ3_checkFromToIndex_8c36e : MethodName := ⟨RJ3, "checkFromToIndex", "(IIILjava/util/function/BiFunction;)I"⟩
abbrev cJ3_checkFromIndexSize_8c36e : ByteArray := prog_25_method_13_code
def yJ3_checkFromIndexSize_8c36e : MethodName := ⟨RJ3, "checkFromIndexSize", "(IIILjava/util/function/BiFunction;)I"⟩
def RL : String := "GroebnerFanLaw"
abbrev cL_law : ByteArray := code
def yL_law : MethodName := ⟨RL, "law", "([I)Z"⟩
abbrev vwCl : List vw_C := [(RJ4, TJ4, 4), (RX0, TX0, 4), (RX1, TX1, 8), (RX2, TX2, 2), (RX3, TX3, 4), (RX4, TX4, 3), (RX5, TX5, 4), (RX6, TX6, 1), (RX7, TX7, 5), (RX8, TX8, 3), (RX9, TX9, 12), (RX10, TX10, 46)]
