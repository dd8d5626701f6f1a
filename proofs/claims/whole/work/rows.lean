section
-- ===== PART A: goes FIRST, ahead of the names: the tables' words, and 'selects' of the private methods out of them =====
/-- a private method of a class that the tables say can be made, by its rows of tables_1 -/
def lw_okq (q : MethodName × Nat) : Prop := (q.1.cls ≠ "java/lang/invoke/MethodHandle" ∧ q.1.cls ≠ "java/lang/invoke/VarHandle") ∧ Cond.instantiable q.1.cls q.2 ∈ tables_1 ∧ Cond.privateMethod q.1 ∈ tables_1 ∧ Cond.instanceMethod q.1 ∈ tables_1
theorem lw_p0 : lw_okq (⟨"GroebnerFan", "computeOrder", "(III)V"⟩, 12) := ⟨⟨by decide +kernel, by decide +kernel⟩, List.mem_of_getElem? (i := 25) (by decide +kernel), List.mem_of_getElem? (i := 423) (by decide +kernel), List.mem_of_getElem? (i := 424) (by decide +kernel)⟩
theorem lw_p1 : lw_okq (⟨"GroebnerFan$ReducedBasis", "nextColumn", "(LGroebnerFan$Order;)I"⟩, 5) := ⟨⟨by decide +kernel, by decide +kernel⟩, List.mem_of_getElem? (i := 132) (by decide +kernel), List.mem_of_getElem? (i := 440) (by decide +kernel), List.mem_of_getElem? (i := 441) (by decide +kernel)⟩
theorem lw_p2 : lw_okq (⟨"GroebnerFan$ReducedBasis", "isClosed", "(I)Z"⟩, 5) := ⟨⟨by decide +kernel, by decide +kernel⟩, List.mem_of_getElem? (i := 132) (by decide +kernel), List.mem_of_getElem? (i := 444) (by decide +kernel), List.mem_of_getElem? (i := 445) (by decide +kernel)⟩
theorem lw_p3 : lw_okq (⟨"GroebnerFan$ReducedBasis", "topOf", "(I)I"⟩, 5) := ⟨⟨by decide +kernel, by decide +kernel⟩, List.mem_of_getElem? (i := 132) (by decide +kernel), List.mem_of_getElem? (i := 448) (by decide +kernel), List.mem_of_getElem? (i := 449) (by decide +kernel)⟩
theorem lw_p4 : lw_okq (⟨"GroebnerFan$Order", "weightOf", "(I)I"⟩, 3) := ⟨⟨by decide +kernel, by decide +kernel⟩, List.mem_of_getElem? (i := 116) (by decide +kernel), List.mem_of_getElem? (i := 456) (by decide +kernel), List.mem_of_getElem? (i := 457) (by decide +kernel)⟩
theorem lw_p5 : lw_okq (⟨"GroebnerFan$Points", "power", "(II)I"⟩, 4) := ⟨⟨by decide +kernel, by decide +kernel⟩, List.mem_of_getElem? (i := 33) (by decide +kernel), List.mem_of_getElem? (i := 468) (by decide +kernel), List.mem_of_getElem? (i := 469) (by decide +kernel)⟩
theorem lw_p6 : lw_okq (⟨"GroebnerFan$Elimination", "addMultiple", "([I[II)V"⟩, 8) := ⟨⟨by decide +kernel, by decide +kernel⟩, List.mem_of_getElem? (i := 75) (by decide +kernel), List.mem_of_getElem? (i := 477) (by decide +kernel), List.mem_of_getElem? (i := 478) (by decide +kernel)⟩
theorem lw_p7 : lw_okq (⟨"GroebnerFan$Elimination", "firstNonzeroValue", "()I"⟩, 8) := ⟨⟨by decide +kernel, by decide +kernel⟩, List.mem_of_getElem? (i := 75) (by decide +kernel), List.mem_of_getElem? (i := 481) (by decide +kernel), List.mem_of_getElem? (i := 482) (by decide +kernel)⟩
theorem lw_p8 : lw_okq (⟨"GroebnerFan$Elimination", "keepValues", "(II)V"⟩, 8) := ⟨⟨by decide +kernel, by decide +kernel⟩, List.mem_of_getElem? (i := 75) (by decide +kernel), List.mem_of_getElem? (i := 485) (by decide +kernel), List.mem_of_getElem? (i := 486) (by decide +kernel)⟩
theorem lw_p9 : lw_okq (⟨"GroebnerFan$ReducedBasis", "insertCorner", "(ILGroebnerFan$Elimination;)V"⟩, 5) := ⟨⟨by decide +kernel, by decide +kernel⟩, List.mem_of_getElem? (i := 132) (by decide +kernel), List.mem_of_getElem? (i := 493) (by decide +kernel), List.mem_of_getElem? (i := 494) (by decide +kernel)⟩
theorem lw_p10 : lw_okq (⟨"GroebnerFan$BasisPolynomial", "insertTerm", "(II)V"⟩, 4) := ⟨⟨by decide +kernel, by decide +kernel⟩, List.mem_of_getElem? (i := 139) (by decide +kernel), List.mem_of_getElem? (i := 501) (by decide +kernel), List.mem_of_getElem? (i := 502) (by decide +kernel)⟩
theorem lw_p11 : lw_okq (⟨"GroebnerFan$ReducedBasis", "findWall", "()V"⟩, 5) := ⟨⟨by decide +kernel, by decide +kernel⟩, List.mem_of_getElem? (i := 132) (by decide +kernel), List.mem_of_getElem? (i := 505) (by decide +kernel), List.mem_of_getElem? (i := 506) (by decide +kernel)⟩
theorem lw_p12 : lw_okq (⟨"GroebnerFan$ReducedBasis", "lowerWall", "(LGroebnerFan$BasisPolynomial;)V"⟩, 5) := ⟨⟨by decide +kernel, by decide +kernel⟩, List.mem_of_getElem? (i := 132) (by decide +kernel), List.mem_of_getElem? (i := 509) (by decide +kernel), List.mem_of_getElem? (i := 510) (by decide +kernel)⟩
theorem lw_p13 : lw_okq (⟨"GroebnerFan", "refreshFan", "()V"⟩, 12) := ⟨⟨by decide +kernel, by decide +kernel⟩, List.mem_of_getElem? (i := 25) (by decide +kernel), List.mem_of_getElem? (i := 536) (by decide +kernel), List.mem_of_getElem? (i := 537) (by decide +kernel)⟩
theorem lw_p14 : lw_okq (⟨"GroebnerFan", "findCone", "(I)LGroebnerFan$ReducedBasis;"⟩, 12) := ⟨⟨by decide +kernel, by decide +kernel⟩, List.mem_of_getElem? (i := 25) (by decide +kernel), List.mem_of_getElem? (i := 552) (by decide +kernel), List.mem_of_getElem? (i := 553) (by decide +kernel)⟩
theorem lw_p15 : lw_okq (⟨"GroebnerFan", "findBasisPolynomial", "(II)LGroebnerFan$BasisPolynomial;"⟩, 12) := ⟨⟨by decide +kernel, by decide +kernel⟩, List.mem_of_getElem? (i := 25) (by decide +kernel), List.mem_of_getElem? (i := 597) (by decide +kernel), List.mem_of_getElem? (i := 598) (by decide +kernel)⟩
def lw_privs_1 : List (MethodName × Nat) := [(⟨"GroebnerFan", "computeOrder", "(III)V"⟩, 12), (⟨"GroebnerFan$ReducedBasis", "nextColumn", "(LGroebnerFan$Order;)I"⟩, 5), (⟨"GroebnerFan$ReducedBasis", "isClosed", "(I)Z"⟩, 5), (⟨"GroebnerFan$ReducedBasis", "topOf", "(I)I"⟩, 5), (⟨"GroebnerFan$Order", "weightOf", "(I)I"⟩, 3), (⟨"GroebnerFan$Points", "power", "(II)I"⟩, 4), (⟨"GroebnerFan$Elimination", "addMultiple", "([I[II)V"⟩, 8), (⟨"GroebnerFan$Elimination", "firstNonzeroValue", "()I"⟩, 8), (⟨"GroebnerFan$Elimination", "keepValues", "(II)V"⟩, 8), (⟨"GroebnerFan$ReducedBasis", "insertCorner", "(ILGroebnerFan$Elimination;)V"⟩, 5), (⟨"GroebnerFan$BasisPolynomial", "insertTerm", "(II)V"⟩, 4), (⟨"GroebnerFan$ReducedBasis", "findWall", "()V"⟩, 5), (⟨"GroebnerFan$ReducedBasis", "lowerWall", "(LGroebnerFan$BasisPolynomial;)V"⟩, 5), (⟨"GroebnerFan", "refreshFan", "()V"⟩, 12), (⟨"GroebnerFan", "findCone", "(I)LGroebnerFan$ReducedBasis;"⟩, 12), (⟨"GroebnerFan", "findBasisPolynomial", "(II)LGroebnerFan$BasisPolynomial;"⟩, 12)]
theorem lw_r1 : ∀ q ∈ lw_privs_1, lw_okq q := List.forall_mem_cons.mpr ⟨lw_p0, List.forall_mem_cons.mpr ⟨lw_p1, List.forall_mem_cons.mpr ⟨lw_p2, List.forall_mem_cons.mpr ⟨lw_p3, List.forall_mem_cons.mpr ⟨lw_p4, List.forall_mem_cons.mpr ⟨lw_p5, List.forall_mem_cons.mpr ⟨lw_p6, List.forall_mem_cons.mpr ⟨lw_p7, List.forall_mem_cons.mpr ⟨lw_p8, List.forall_mem_cons.mpr ⟨lw_p9, List.forall_mem_cons.mpr ⟨lw_p10, List.forall_mem_cons.mpr ⟨lw_p11, List.forall_mem_cons.mpr ⟨lw_p12, List.forall_mem_cons.mpr ⟨lw_p13, List.forall_mem_cons.mpr ⟨lw_p14, List.forall_mem_cons.mpr ⟨lw_p15, fun _ h => absurd h List.not_mem_nil⟩⟩⟩⟩⟩⟩⟩⟩⟩⟩⟩⟩⟩⟩⟩⟩
theorem lw_p16 : lw_okq (⟨"GroebnerFan$ReducedBasis", "hasCorner", "(I)Z"⟩, 5) := ⟨⟨by decide +kernel, by decide +kernel⟩, List.mem_of_getElem? (i := 132) (by decide +kernel), List.mem_of_getElem? (i := 617) (by decide +kernel), List.mem_of_getElem? (i := 618) (by decide +kernel)⟩
theorem lw_p17 : lw_okq (⟨"GroebnerFan$Fan", "isBefore", "(ILGroebnerFan$BasisPolynomial;)Z"⟩, 2) := ⟨⟨by decide +kernel, by decide +kernel⟩, List.mem_of_getElem? (i := 190) (by decide +kernel), List.mem_of_getElem? (i := 629) (by decide +kernel), List.mem_of_getElem? (i := 630) (by decide +kernel)⟩
theorem lw_p18 : lw_okq (⟨"GroebnerFan$ReducedBasis", "rowLength", "(I)I"⟩, 5) := ⟨⟨by decide +kernel, by decide +kernel⟩, List.mem_of_getElem? (i := 132) (by decide +kernel), List.mem_of_getElem? (i := 669) (by decide +kernel), List.mem_of_getElem? (i := 670) (by decide +kernel)⟩
theorem lw_p19 : lw_okq (⟨"GroebnerFan", "replaceByInterpolation", "()I"⟩, 12) := ⟨⟨by decide +kernel, by decide +kernel⟩, List.mem_of_getElem? (i := 25) (by decide +kernel), List.mem_of_getElem? (i := 731) (by decide +kernel), List.mem_of_getElem? (i := 732) (by decide +kernel)⟩
theorem lw_p20 : lw_okq (⟨"GroebnerFan", "findSlot", "(I)LGroebnerFan$Slot;"⟩, 12) := ⟨⟨by decide +kernel, by decide +kernel⟩, List.mem_of_getElem? (i := 25) (by decide +kernel), List.mem_of_getElem? (i := 740) (by decide +kernel), List.mem_of_getElem? (i := 741) (by decide +kernel)⟩
theorem lw_p21 : lw_okq (⟨"GroebnerFan$InputText", "signBehindNumber", "()I"⟩, 4) := ⟨⟨by decide +kernel, by decide +kernel⟩, List.mem_of_getElem? (i := 206) (by decide +kernel), List.mem_of_getElem? (i := 775) (by decide +kernel), List.mem_of_getElem? (i := 776) (by decide +kernel)⟩
theorem lw_p22 : lw_okq (⟨"GroebnerFan$InputText", "appendNumber", "(I)V"⟩, 4) := ⟨⟨by decide +kernel, by decide +kernel⟩, List.mem_of_getElem? (i := 206) (by decide +kernel), List.mem_of_getElem? (i := 779) (by decide +kernel), List.mem_of_getElem? (i := 780) (by decide +kernel)⟩
theorem lw_p23 : lw_okq (⟨"GroebnerFan", "writeTerm", "(II)V"⟩, 12) := ⟨⟨by decide +kernel, by decide +kernel⟩, List.mem_of_getElem? (i := 25) (by decide +kernel), List.mem_of_getElem? (i := 846) (by decide +kernel), List.mem_of_getElem? (i := 847) (by decide +kernel)⟩
theorem lw_p24 : lw_okq (⟨"GroebnerFanModel", "clearCurrent", "()V"⟩, 46) := ⟨⟨by decide +kernel, by decide +kernel⟩, List.mem_of_getElem? (i := 1018) (by decide +kernel), List.mem_of_getElem? (i := 1174) (by decide +kernel), List.mem_of_getElem? (i := 1175) (by decide +kernel)⟩
theorem lw_p25 : lw_okq (⟨"GroebnerFanModel", "isPoint", "(I)Z"⟩, 46) := ⟨⟨by decide +kernel, by decide +kernel⟩, List.mem_of_getElem? (i := 1018) (by decide +kernel), List.mem_of_getElem? (i := 1190) (by decide +kernel), List.mem_of_getElem? (i := 1191) (by decide +kernel)⟩
theorem lw_p26 : lw_okq (⟨"GroebnerFanModel", "compute", "(III)V"⟩, 46) := ⟨⟨by decide +kernel, by decide +kernel⟩, List.mem_of_getElem? (i := 1018) (by decide +kernel), List.mem_of_getElem? (i := 1228) (by decide +kernel), List.mem_of_getElem? (i := 1229) (by decide +kernel)⟩
theorem lw_p27 : lw_okq (⟨"GroebnerFanModel", "sort", "(III)V"⟩, 46) := ⟨⟨by decide +kernel, by decide +kernel⟩, List.mem_of_getElem? (i := 1018) (by decide +kernel), List.mem_of_getElem? (i := 1232) (by decide +kernel), List.mem_of_getElem? (i := 1233) (by decide +kernel)⟩
theorem lw_p28 : lw_okq (⟨"GroebnerFanModel", "reduce", "(I)I"⟩, 46) := ⟨⟨by decide +kernel, by decide +kernel⟩, List.mem_of_getElem? (i := 1018) (by decide +kernel), List.mem_of_getElem? (i := 1239) (by decide +kernel), List.mem_of_getElem? (i := 1240) (by decide +kernel)⟩
theorem lw_p29 : lw_okq (⟨"GroebnerFanModel", "power", "(II)I"⟩, 46) := ⟨⟨by decide +kernel, by decide +kernel⟩, List.mem_of_getElem? (i := 1018) (by decide +kernel), List.mem_of_getElem? (i := 1243) (by decide +kernel), List.mem_of_getElem? (i := 1244) (by decide +kernel)⟩
theorem lw_p30 : lw_okq (⟨"GroebnerFanModel", "becomesStandard", "(II)V"⟩, 46) := ⟨⟨by decide +kernel, by decide +kernel⟩, List.mem_of_getElem? (i := 1018) (by decide +kernel), List.mem_of_getElem? (i := 1248) (by decide +kernel), List.mem_of_getElem? (i := 1249) (by decide +kernel)⟩
theorem lw_p31 : lw_okq (⟨"GroebnerFanModel", "inverse", "(I)I"⟩, 46) := ⟨⟨by decide +kernel, by decide +kernel⟩, List.mem_of_getElem? (i := 1018) (by decide +kernel), List.mem_of_getElem? (i := 1252) (by decide +kernel), List.mem_of_getElem? (i := 1253) (by decide +kernel)⟩
def lw_privs_2 : List (MethodName × Nat) := [(⟨"GroebnerFan$ReducedBasis", "hasCorner", "(I)Z"⟩, 5), (⟨"GroebnerFan$Fan", "isBefore", "(ILGroebnerFan$BasisPolynomial;)Z"⟩, 2), (⟨"GroebnerFan$ReducedBasis", "rowLength", "(I)I"⟩, 5), (⟨"GroebnerFan", "replaceByInterpolation", "()I"⟩, 12), (⟨"GroebnerFan", "findSlot", "(I)LGroebnerFan$Slot;"⟩, 12), (⟨"GroebnerFan$InputText", "signBehindNumber", "()I"⟩, 4), (⟨"GroebnerFan$InputText", "appendNumber", "(I)V"⟩, 4), (⟨"GroebnerFan", "writeTerm", "(II)V"⟩, 12), (⟨"GroebnerFanModel", "clearCurrent", "()V"⟩, 46), (⟨"GroebnerFanModel", "isPoint", "(I)Z"⟩, 46), (⟨"GroebnerFanModel", "compute", "(III)V"⟩, 46), (⟨"GroebnerFanModel", "sort", "(III)V"⟩, 46), (⟨"GroebnerFanModel", "reduce", "(I)I"⟩, 46), (⟨"GroebnerFanModel", "power", "(II)I"⟩, 46), (⟨"GroebnerFanModel", "becomesStandard", "(II)V"⟩, 46), (⟨"GroebnerFanModel", "inverse", "(I)I"⟩, 46)]
theorem lw_r2 : ∀ q ∈ lw_privs_2, lw_okq q := List.forall_mem_cons.mpr ⟨lw_p16, List.forall_mem_cons.mpr ⟨lw_p17, List.forall_mem_cons.mpr ⟨lw_p18, List.forall_mem_cons.mpr ⟨lw_p19, List.forall_mem_cons.mpr ⟨lw_p20, List.forall_mem_cons.mpr ⟨lw_p21, List.forall_mem_cons.mpr ⟨lw_p22, List.forall_mem_cons.mpr ⟨lw_p23, List.forall_mem_cons.mpr ⟨lw_p24, List.forall_mem_cons.mpr ⟨lw_p25, List.forall_mem_cons.mpr ⟨lw_p26, List.forall_mem_cons.mpr ⟨lw_p27, List.forall_mem_cons.mpr ⟨lw_p28, List.forall_mem_cons.mpr ⟨lw_p29, List.forall_mem_cons.mpr ⟨lw_p30, List.forall_mem_cons.mpr ⟨lw_p31, fun _ h => absurd h List.not_mem_nil⟩⟩⟩⟩⟩⟩⟩⟩⟩⟩⟩⟩⟩⟩⟩⟩
theorem lw_p32 : lw_okq (⟨"GroebnerFanModel", "isCorner", "(I)Z"⟩, 46) := ⟨⟨by decide +kernel, by decide +kernel⟩, List.mem_of_getElem? (i := 1018) (by decide +kernel), List.mem_of_getElem? (i := 1256) (by decide +kernel), List.mem_of_getElem? (i := 1257) (by decide +kernel)⟩
theorem lw_p33 : lw_okq (⟨"GroebnerFanModel", "becomesCorner", "(I)V"⟩, 46) := ⟨⟨by decide +kernel, by decide +kernel⟩, List.mem_of_getElem? (i := 1018) (by decide +kernel), List.mem_of_getElem? (i := 1260) (by decide +kernel), List.mem_of_getElem? (i := 1261) (by decide +kernel)⟩
theorem lw_p34 : lw_okq (⟨"GroebnerFanModel", "sortCorners", "()V"⟩, 46) := ⟨⟨by decide +kernel, by decide +kernel⟩, List.mem_of_getElem? (i := 1018) (by decide +kernel), List.mem_of_getElem? (i := 1264) (by decide +kernel), List.mem_of_getElem? (i := 1265) (by decide +kernel)⟩
theorem lw_p35 : lw_okq (⟨"GroebnerFanModel", "fan", "()V"⟩, 46) := ⟨⟨by decide +kernel, by decide +kernel⟩, List.mem_of_getElem? (i := 1018) (by decide +kernel), List.mem_of_getElem? (i := 1283) (by decide +kernel), List.mem_of_getElem? (i := 1284) (by decide +kernel)⟩
theorem lw_p36 : lw_okq (⟨"GroebnerFanModel", "keep", "(I)V"⟩, 46) := ⟨⟨by decide +kernel, by decide +kernel⟩, List.mem_of_getElem? (i := 1018) (by decide +kernel), List.mem_of_getElem? (i := 1287) (by decide +kernel), List.mem_of_getElem? (i := 1288) (by decide +kernel)⟩
theorem lw_p37 : lw_okq (⟨"GroebnerFanModel", "wall", "(I)V"⟩, 46) := ⟨⟨by decide +kernel, by decide +kernel⟩, List.mem_of_getElem? (i := 1018) (by decide +kernel), List.mem_of_getElem? (i := 1291) (by decide +kernel), List.mem_of_getElem? (i := 1292) (by decide +kernel)⟩
theorem lw_p38 : lw_okq (⟨"GroebnerFanModel", "isCone", "(I)Z"⟩, 46) := ⟨⟨by decide +kernel, by decide +kernel⟩, List.mem_of_getElem? (i := 1018) (by decide +kernel), List.mem_of_getElem? (i := 1302) (by decide +kernel), List.mem_of_getElem? (i := 1303) (by decide +kernel)⟩
theorem lw_p39 : lw_okq (⟨"GroebnerFanModel", "contains", "(III)Z"⟩, 46) := ⟨⟨by decide +kernel, by decide +kernel⟩, List.mem_of_getElem? (i := 1018) (by decide +kernel), List.mem_of_getElem? (i := 1314) (by decide +kernel), List.mem_of_getElem? (i := 1315) (by decide +kernel)⟩
theorem lw_p40 : lw_okq (⟨"GroebnerFanModel", "isBasis", "(II)Z"⟩, 46) := ⟨⟨by decide +kernel, by decide +kernel⟩, List.mem_of_getElem? (i := 1018) (by decide +kernel), List.mem_of_getElem? (i := 1334) (by decide +kernel), List.mem_of_getElem? (i := 1335) (by decide +kernel)⟩
theorem lw_p41 : lw_okq (⟨"GroebnerFanModel", "cell", "(III)I"⟩, 46) := ⟨⟨by decide +kernel, by decide +kernel⟩, List.mem_of_getElem? (i := 1018) (by decide +kernel), List.mem_of_getElem? (i := 1342) (by decide +kernel), List.mem_of_getElem? (i := 1343) (by decide +kernel)⟩
theorem lw_p42 : lw_okq (⟨"GroebnerFanModel", "isNew", "(II)Z"⟩, 46) := ⟨⟨by decide +kernel, by decide +kernel⟩, List.mem_of_getElem? (i := 1018) (by decide +kernel), List.mem_of_getElem? (i := 1354) (by decide +kernel), List.mem_of_getElem? (i := 1355) (by decide +kernel)⟩
theorem lw_p43 : lw_okq (⟨"GroebnerFanModel", "isSame", "(IIII)Z"⟩, 46) := ⟨⟨by decide +kernel, by decide +kernel⟩, List.mem_of_getElem? (i := 1018) (by decide +kernel), List.mem_of_getElem? (i := 1358) (by decide +kernel), List.mem_of_getElem? (i := 1359) (by decide +kernel)⟩
theorem lw_p44 : lw_okq (⟨"GroebnerFanModel", "isMirrored", "(II)Z"⟩, 46) := ⟨⟨by decide +kernel, by decide +kernel⟩, List.mem_of_getElem? (i := 1018) (by decide +kernel), List.mem_of_getElem? (i := 1371) (by decide +kernel), List.mem_of_getElem? (i := 1372) (by decide +kernel)⟩
theorem lw_p45 : lw_okq (⟨"GroebnerFanModel", "steepness", "(I)I"⟩, 46) := ⟨⟨by decide +kernel, by decide +kernel⟩, List.mem_of_getElem? (i := 1018) (by decide +kernel), List.mem_of_getElem? (i := 1379) (by decide +kernel), List.mem_of_getElem? (i := 1380) (by decide +kernel)⟩
theorem lw_p46 : lw_okq (⟨"GroebnerFanModel", "valueAt", "(I)I"⟩, 46) := ⟨⟨by decide +kernel, by decide +kernel⟩, List.mem_of_getElem? (i := 1018) (by decide +kernel), List.mem_of_getElem? (i := 1399) (by decide +kernel), List.mem_of_getElem? (i := 1400) (by decide +kernel)⟩
theorem lw_p47 : lw_okq (⟨"GroebnerFanModel", "solve", "(I)I"⟩, 46) := ⟨⟨by decide +kernel, by decide +kernel⟩, List.mem_of_getElem? (i := 1018) (by decide +kernel), List.mem_of_getElem? (i := 1411) (by decide +kernel), List.mem_of_getElem? (i := 1412) (by decide +kernel)⟩
def lw_privs_3 : List (MethodName × Nat) := [(⟨"GroebnerFanModel", "isCorner", "(I)Z"⟩, 46), (⟨"GroebnerFanModel", "becomesCorner", "(I)V"⟩, 46), (⟨"GroebnerFanModel", "sortCorners", "()V"⟩, 46), (⟨"GroebnerFanModel", "fan", "()V"⟩, 46), (⟨"GroebnerFanModel", "keep", "(I)V"⟩, 46), (⟨"GroebnerFanModel", "wall", "(I)V"⟩, 46), (⟨"GroebnerFanModel", "isCone", "(I)Z"⟩, 46), (⟨"GroebnerFanModel", "contains", "(III)Z"⟩, 46), (⟨"GroebnerFanModel", "isBasis", "(II)Z"⟩, 46), (⟨"GroebnerFanModel", "cell", "(III)I"⟩, 46), (⟨"GroebnerFanModel", "isNew", "(II)Z"⟩, 46), (⟨"GroebnerFanModel", "isSame", "(IIII)Z"⟩, 46), (⟨"GroebnerFanModel", "isMirrored", "(II)Z"⟩, 46), (⟨"GroebnerFanModel", "steepness", "(I)I"⟩, 46), (⟨"GroebnerFanModel", "valueAt", "(I)I"⟩, 46), (⟨"GroebnerFanModel", "solve", "(I)I"⟩, 46)]
theorem lw_r3 : ∀ q ∈ lw_privs_3, lw_okq q := List.forall_mem_cons.mpr ⟨lw_p32, List.forall_mem_cons.mpr ⟨lw_p33, List.forall_mem_cons.mpr ⟨lw_p34, List.forall_mem_cons.mpr ⟨lw_p35, List.forall_mem_cons.mpr ⟨lw_p36, List.forall_mem_cons.mpr ⟨lw_p37, List.forall_mem_cons.mpr ⟨lw_p38, List.forall_mem_cons.mpr ⟨lw_p39, List.forall_mem_cons.mpr ⟨lw_p40, List.forall_mem_cons.mpr ⟨lw_p41, List.forall_mem_cons.mpr ⟨lw_p42, List.forall_mem_cons.mpr ⟨lw_p43, List.forall_mem_cons.mpr ⟨lw_p44, List.forall_mem_cons.mpr ⟨lw_p45, List.forall_mem_cons.mpr ⟨lw_p46, List.forall_mem_cons.mpr ⟨lw_p47, fun _ h => absurd h List.not_mem_nil⟩⟩⟩⟩⟩⟩⟩⟩⟩⟩⟩⟩⟩⟩⟩⟩
theorem lw_p48 : lw_okq (⟨"GroebnerFanModel", "setUp", "(I)V"⟩, 46) := ⟨⟨by decide +kernel, by decide +kernel⟩, List.mem_of_getElem? (i := 1018) (by decide +kernel), List.mem_of_getElem? (i := 1415) (by decide +kernel), List.mem_of_getElem? (i := 1416) (by decide +kernel)⟩
theorem lw_p49 : lw_okq (⟨"GroebnerFanModel", "exchange", "(II)V"⟩, 46) := ⟨⟨by decide +kernel, by decide +kernel⟩, List.mem_of_getElem? (i := 1018) (by decide +kernel), List.mem_of_getElem? (i := 1419) (by decide +kernel), List.mem_of_getElem? (i := 1420) (by decide +kernel)⟩
theorem lw_p50 : lw_okq (⟨"GroebnerFanModel", "takesList", "(Z)I"⟩, 46) := ⟨⟨by decide +kernel, by decide +kernel⟩, List.mem_of_getElem? (i := 1018) (by decide +kernel), List.mem_of_getElem? (i := 1447) (by decide +kernel), List.mem_of_getElem? (i := 1448) (by decide +kernel)⟩
theorem lw_p51 : lw_okq (⟨"GroebnerFanModel", "takesPoint", "(Z)I"⟩, 46) := ⟨⟨by decide +kernel, by decide +kernel⟩, List.mem_of_getElem? (i := 1018) (by decide +kernel), List.mem_of_getElem? (i := 1451) (by decide +kernel), List.mem_of_getElem? (i := 1452) (by decide +kernel)⟩
theorem lw_p52 : lw_okq (⟨"GroebnerFanModel", "takesNumber", "()Z"⟩, 46) := ⟨⟨by decide +kernel, by decide +kernel⟩, List.mem_of_getElem? (i := 1018) (by decide +kernel), List.mem_of_getElem? (i := 1455) (by decide +kernel), List.mem_of_getElem? (i := 1456) (by decide +kernel)⟩
theorem lw_p53 : lw_okq (⟨"GroebnerFanModel", "isAt", "(II)Z"⟩, 46) := ⟨⟨by decide +kernel, by decide +kernel⟩, List.mem_of_getElem? (i := 1018) (by decide +kernel), List.mem_of_getElem? (i := 1459) (by decide +kernel), List.mem_of_getElem? (i := 1460) (by decide +kernel)⟩
theorem lw_p54 : lw_okq (⟨"GroebnerFanModel", "writeTerm", "(II)V"⟩, 46) := ⟨⟨by decide +kernel, by decide +kernel⟩, List.mem_of_getElem? (i := 1018) (by decide +kernel), List.mem_of_getElem? (i := 1468) (by decide +kernel), List.mem_of_getElem? (i := 1469) (by decide +kernel)⟩
theorem lw_p55 : lw_okq (⟨"GroebnerFanModel", "write", "(I)V"⟩, 46) := ⟨⟨by decide +kernel, by decide +kernel⟩, List.mem_of_getElem? (i := 1018) (by decide +kernel), List.mem_of_getElem? (i := 1472) (by decide +kernel), List.mem_of_getElem? (i := 1473) (by decide +kernel)⟩
theorem lw_p56 : lw_okq (⟨"GroebnerFanModel", "amiss", "(II)I"⟩, 46) := ⟨⟨by decide +kernel, by decide +kernel⟩, List.mem_of_getElem? (i := 1018) (by decide +kernel), List.mem_of_getElem? (i := 1492) (by decide +kernel), List.mem_of_getElem? (i := 1493) (by decide +kernel)⟩
def lw_privs_4 : List (MethodName × Nat) := [(⟨"GroebnerFanModel", "setUp", "(I)V"⟩, 46), (⟨"GroebnerFanModel", "exchange", "(II)V"⟩, 46), (⟨"GroebnerFanModel", "takesList", "(Z)I"⟩, 46), (⟨"GroebnerFanModel", "takesPoint", "(Z)I"⟩, 46), (⟨"GroebnerFanModel", "takesNumber", "()Z"⟩, 46), (⟨"GroebnerFanModel", "isAt", "(II)Z"⟩, 46), (⟨"GroebnerFanModel", "writeTerm", "(II)V"⟩, 46), (⟨"GroebnerFanModel", "write", "(I)V"⟩, 46), (⟨"GroebnerFanModel", "amiss", "(II)I"⟩, 46)]
theorem lw_r4 : ∀ q ∈ lw_privs_4, lw_okq q := List.forall_mem_cons.mpr ⟨lw_p48, List.forall_mem_cons.mpr ⟨lw_p49, List.forall_mem_cons.mpr ⟨lw_p50, List.forall_mem_cons.mpr ⟨lw_p51, List.forall_mem_cons.mpr ⟨lw_p52, List.forall_mem_cons.mpr ⟨lw_p53, List.forall_mem_cons.mpr ⟨lw_p54, List.forall_mem_cons.mpr ⟨lw_p55, List.forall_mem_cons.mpr ⟨lw_p56, fun _ h => absurd h List.not_mem_nil⟩⟩⟩⟩⟩⟩⟩⟩⟩
def lw_privs : List (MethodName × Nat) := lw_privs_1 ++ (lw_privs_2 ++ (lw_privs_3 ++ (lw_privs_4)))
def lw_tbl : List Cond := k2_sels lw_privs ++ tables_1
theorem lw_privs_ok : ∀ q ∈ lw_privs, lw_okq q := by
  show ∀ q ∈ lw_privs_1 ++ (lw_privs_2 ++ (lw_privs_3 ++ (lw_privs_4))), lw_okq q
  exact List.forall_mem_append.mpr ⟨lw_r1, List.forall_mem_append.mpr ⟨lw_r2, List.forall_mem_append.mpr ⟨lw_r3, lw_r4⟩⟩⟩
def RX0 : String := "GroebnerFan$BasisPolynomial"
def TX0 : u_T := fun k => match k with
  | 0 => ("GroebnerFan$BasisPolynomial", "corner", "I", false)
  | 1 => ("GroebnerFan$BasisPolynomial", "size", "I", false)
  | 2 => ("GroebnerFan$BasisPolynomial", "monomials", "[I", true)
  | _ => ("GroebnerFan$BasisPolynomial", "factors", "[I", true)
def tyX0 : Nat → FieldType := fun k => match k with
  | 0 => .int
  | 1 => .int
  | 2 => .array .int
  | _ => .array .int
abbrev wsX00 : List Cond := u_ws RX0 TX0 4
theorem nmX0 : ∀ a, a < 4 → ∀ b, b < 4 → a ≠ b → (TX0 a).2.1 ≠ (TX0 b).2.1 := by decide +kernel
theorem tyX0_ok : ∀ k, k < 4 → parseFieldDescriptor (TX0 k).2.2.1 = some (tyX0 k) := by decide +kernel
abbrev cX0_init : ByteArray := prog_2_method_1_code
def yX0_init : MethodName := ⟨RX0, "<init>", "()V"⟩
abbrev cX0_take : ByteArray := prog_2_method_2_code
def yX0_take : MethodName := ⟨RX0, "take", "(ILGroebnerFan$Elimination;)V"⟩
abbrev cX0_insertTerm : ByteArray := prog_2_method_3_code
def yX0_insertTerm : MethodName := ⟨RX0, "insertTerm", "(II)V"⟩
abbrev cX0_factorOf : ByteArray := prog_2_method_4_code
def yX0_factorOf : MethodName := ⟨RX0, "factorOf", "(I)I"⟩
abbrev cX0_hasTermsOf : ByteArray := prog_2_method_5_code
def yX0_hasTermsOf : MethodName := ⟨RX0, "hasTermsOf", "(LGroebnerFan$BasisPolynomial;)Z"⟩
abbrev cX0_degree : ByteArray := prog_2_method_6_code
def yX0_degree : MethodName := ⟨RX0, "degree", "()I"⟩
def RX1 : String := "GroebnerFan$Elimination"
def TX1 : u_T := fun k => match k with
  | 0 => ("GroebnerFan$Elimination", "points", "LGroebnerFan$Points;", true)
  | 1 => ("GroebnerFan$Elimination", "rows", "[[I", true)
  | 2 => ("GroebnerFan$Elimination", "origins", "[[I", true)
  | 3 => ("GroebnerFan$Elimination", "pivots", "[I", true)
  | 4 => ("GroebnerFan$Elimination", "size", "I", false)
  | 5 => ("GroebnerFan$Elimination", "monomials", "[I", true)
  | 6 => ("GroebnerFan$Elimination", "values", "[I", true)
  | _ => ("GroebnerFan$Elimination", "combination", "[I", true)
def tyX1 : Nat → FieldType := fun k => match k with
  | 0 => .object "GroebnerFan$Points"
  | 1 => .array (.array .int)
  | 2 => .array (.array .int)
  | 3 => .array .int
  | 4 => .int
  | 5 => .array .int
  | 6 => .array .int
  | _ => .array .int
abbrev wsX10 : List Cond := u_ws RX1 TX1 8
theorem nmX1 : ∀ a, a < 8 → ∀ b, b < 8 → a ≠ b → (TX1 a).2.1 ≠ (TX1 b).2.1 := by decide +kernel
theorem tyX1_ok : ∀ k, k < 8 → parseFieldDescriptor (TX1 k).2.2.1 = some (tyX1 k) := by decide +kernel
abbrev cX1_init : ByteArray := prog_3_method_1_code
def yX1_init : MethodName := ⟨RX1, "<init>", "(LGroebnerFan$Points;)V"⟩
abbrev cX1_restart : ByteArray := prog_3_method_2_code
def yX1_restart : MethodName := ⟨RX1, "restart", "()V"⟩
abbrev cX1_keepStandardMonomials : ByteArray := prog_3_method_3_code
def yX1_keepStandardMonomials : MethodName := ⟨RX1, "keepStandardMonomials", "(LGroebnerFan$ReducedBasis;)V"⟩
abbrev cX1_keepIfIndependent : ByteArray := prog_3_method_4_code
def yX1_keepIfIndependent : MethodName := ⟨RX1, "keepIfIndependent", "(I)Z"⟩
abbrev cX1_reduceValues : ByteArray := prog_3_method_5_code
def yX1_reduceValues : MethodName := ⟨RX1, "reduceValues", "()V"⟩
abbrev cX1_addMultiple : ByteArray := prog_3_method_6_code
def yX1_addMultiple : MethodName := ⟨RX1, "addMultiple", "([I[II)V"⟩
abbrev cX1_firstNonzeroValue : ByteArray := prog_3_method_7_code
def yX1_firstNonzeroValue : MethodName := ⟨RX1, "firstNonzeroValue", "()I"⟩
abbrev cX1_keepValues : ByteArray := prog_3_method_8_code
def yX1_keepValues : MethodName := ⟨RX1, "keepValues", "(II)V"⟩
def RX2 : String := "GroebnerFan$Fan"
def TX2 : u_T := fun k => match k with
  | 0 => ("GroebnerFan$Fan", "size", "I", false)
  | _ => ("GroebnerFan$Fan", "cones", "[LGroebnerFan$ReducedBasis;", true)
def tyX2 : Nat → FieldType := fun k => match k with
  | 0 => .int
  | _ => .array (.object "GroebnerFan$ReducedBasis")
abbrev wsX20 : List Cond := u_ws RX2 TX2 2
theorem nmX2 : ∀ a, a < 2 → ∀ b, b < 2 → a ≠ b → (TX2 a).2.1 ≠ (TX2 b).2.1 := by decide +kernel
theorem tyX2_ok : ∀ k, k < 2 → parseFieldDescriptor (TX2 k).2.2.1 = some (tyX2 k) := by decide +kernel
abbrev cX2_init : ByteArray := prog_4_method_1_code
def yX2_init : MethodName := ⟨RX2, "<init>", "()V"⟩
abbrev cX2_forget : ByteArray := prog_4_method_2_code
def yX2_forget : MethodName := ⟨RX2, "forget", "()V"⟩
abbrev cX2_find : ByteArray := prog_4_method_3_code
def yX2_find : MethodName := ⟨RX2, "find", "(I)LGroebnerFan$ReducedBasis;"⟩
abbrev cX2_build : ByteArray := prog_4_method_4_code
def yX2_build : MethodName := ⟨RX2, "build", "(LGroebnerFan$Order;LGroebnerFan$Elimination;)V"⟩
abbrev cX2_firstWithin : ByteArray := prog_4_method_5_code
def yX2_firstWithin : MethodName := ⟨RX2, "firstWithin", "(II)I"⟩
abbrev cX2_countDistinctPolynomials : ByteArray := prog_4_method_6_code
def yX2_countDistinctPolynomials : MethodName := ⟨RX2, "countDistinctPolynomials", "()I"⟩
abbrev cX2_isBefore : ByteArray := prog_4_method_7_code
def yX2_isBefore : MethodName := ⟨RX2, "isBefore", "(ILGroebnerFan$BasisPolynomial;)Z"⟩
abbrev cX2_greatestDegree : ByteArray := prog_4_method_8_code
def yX2_greatestDegree : MethodName := ⟨RX2, "greatestDegree", "()I"⟩
abbrev cX2_firstMirrorOf : ByteArray := prog_4_method_9_code
def yX2_firstMirrorOf : MethodName := ⟨RX2, "firstMirrorOf", "(LGroebnerFan$ReducedBasis;)I"⟩
abbrev cX2_firstFlattest : ByteArray := prog_4_method_10_code
def yX2_firstFlattest : MethodName := ⟨RX2, "firstFlattest", "()I"⟩
def RX3 : String := "GroebnerFan$InputText"
def TX3 : u_T := fun k => match k with
  | 0 => ("GroebnerFan$InputText", "length", "I", false)
  | 1 => ("GroebnerFan$InputText", "bytes", "[B", true)
  | 2 => ("GroebnerFan$InputText", "numberCount", "I", false)
  | _ => ("GroebnerFan$InputText", "numbers", "[I", true)
def tyX3 : Nat → FieldType := fun k => match k with
  | 0 => .int
  | 1 => .array .byte
  | 2 => .int
  | _ => .array .int
abbrev wsX30 : List Cond := u_ws RX3 TX3 4
theorem nmX3 : ∀ a, a < 4 → ∀ b, b < 4 → a ≠ b → (TX3 a).2.1 ≠ (TX3 b).2.1 := by decide +kernel
theorem tyX3_ok : ∀ k, k < 4 → parseFieldDescriptor (TX3 k).2.2.1 = some (tyX3 k) := by decide +kernel
abbrev cX3_init : ByteArray := prog_5_method_1_code
def yX3_init : MethodName := ⟨RX3, "<init>", "()V"⟩
abbrev cX3_append : ByteArray := prog_5_method_2_code
def yX3_append : MethodName := ⟨RX3, "append", "(I)V"⟩
abbrev cX3_readNumbers : ByteArray := prog_5_method_3_code
def yX3_readNumbers : MethodName := ⟨RX3, "readNumbers", "()I"⟩
abbrev cX3_isDigit : ByteArray := prog_5_method_4_code
def yX3_isDigit : MethodName := ⟨RX3, "isDigit", "(I)Z"⟩
abbrev cX3_signBehindNumber : ByteArray := prog_5_method_5_code
def yX3_signBehindNumber : MethodName := ⟨RX3, "signBehindNumber", "()I"⟩
abbrev cX3_appendNumber : ByteArray := prog_5_method_6_code
def yX3_appendNumber : MethodName := ⟨RX3, "appendNumber", "(I)V"⟩
def RX4 : String := "GroebnerFan$Order"
def TX4 : u_T := fun k => match k with
  | 0 => ("GroebnerFan$Order", "u", "I", false)
  | 1 => ("GroebnerFan$Order", "v", "I", false)
  | _ => ("GroebnerFan$Order", "tie", "I", false)
def tyX4 : Nat → FieldType := fun k => match k with
  | 0 => .int
  | 1 => .int
  | _ => .int
abbrev wsX40 : List Cond := u_ws RX4 TX4 3
theorem nmX4 : ∀ a, a < 3 → ∀ b, b < 3 → a ≠ b → (TX4 a).2.1 ≠ (TX4 b).2.1 := by decide +kernel
theorem tyX4_ok : ∀ k, k < 3 → parseFieldDescriptor (TX4 k).2.2.1 = some (tyX4 k) := by decide +kernel
abbrev cX4_init : ByteArray := prog_6_method_1_code
def yX4_init : MethodName := ⟨RX4, "<init>", "()V"⟩
abbrev cX4_choose : ByteArray := prog_6_method_2_code
def yX4_choose : MethodName := ⟨RX4, "choose", "(III)V"⟩
abbrev cX4_isSmaller : ByteArray := prog_6_method_3_code
def yX4_isSmaller : MethodName := ⟨RX4, "isSmaller", "(II)Z"⟩
abbrev cX4_weightOf : ByteArray := prog_6_method_4_code
def yX4_weightOf : MethodName := ⟨RX4, "weightOf", "(I)I"⟩
def RX5 : String := "GroebnerFan$Points"
def TX5 : u_T := fun k => match k with
  | 0 => ("GroebnerFan$Points", "modulus", "I", false)
  | 1 => ("GroebnerFan$Points", "size", "I", false)
  | 2 => ("GroebnerFan$Points", "xs", "[I", true)
  | _ => ("GroebnerFan$Points", "ys", "[I", true)
def tyX5 : Nat → FieldType := fun k => match k with
  | 0 => .int
  | 1 => .int
  | 2 => .array .int
  | _ => .array .int
abbrev wsX50 : List Cond := u_ws RX5 TX5 4
theorem nmX5 : ∀ a, a < 4 → ∀ b, b < 4 → a ≠ b → (TX5 a).2.1 ≠ (TX5 b).2.1 := by decide +kernel
theorem tyX5_ok : ∀ k, k < 4 → parseFieldDescriptor (TX5 k).2.2.1 = some (tyX5 k) := by decide +kernel
abbrev cX5_init : ByteArray := prog_7_method_1_code
def yX5_init : MethodName := ⟨RX5, "<init>", "()V"⟩
abbrev cX5_restart : ByteArray := prog_7_method_2_code
def yX5_restart : MethodName := ⟨RX5, "restart", "(I)V"⟩
abbrev cX5_copyFrom : ByteArray := prog_7_method_3_code
def yX5_copyFrom : MethodName := ⟨RX5, "copyFrom", "(LGroebnerFan$Points;)V"⟩
abbrev cX5_isResidue : ByteArray := prog_7_method_4_code
def yX5_isResidue : MethodName := ⟨RX5, "isResidue", "(I)Z"⟩
abbrev cX5_residue : ByteArray := prog_7_method_5_code
def yX5_residue : MethodName := ⟨RX5, "residue", "(I)I"⟩
abbrev cX5_inverse : ByteArray := prog_7_method_6_code
def yX5_inverse : MethodName := ⟨RX5, "inverse", "(I)I"⟩
abbrev cX5_hasIndex : ByteArray := prog_7_method_7_code
def yX5_hasIndex : MethodName := ⟨RX5, "hasIndex", "(I)Z"⟩
abbrev cX5_holds : ByteArray := prog_7_method_8_code
def yX5_holds : MethodName := ⟨RX5, "holds", "(II)Z"⟩
abbrev cX5_append : ByteArray := prog_7_method_9_code
def yX5_append : MethodName := ⟨RX5, "append", "(II)V"⟩
abbrev cX5_remove : ByteArray := prog_7_method_10_code
def yX5_remove : MethodName := ⟨RX5, "remove", "(I)V"⟩
abbrev cX5_isSymmetric : ByteArray := prog_7_method_11_code
def yX5_isSymmetric : MethodName := ⟨RX5, "isSymmetric", "()Z"⟩
abbrev cX5_mirror : ByteArray := prog_7_method_12_code
def yX5_mirror : MethodName := ⟨RX5, "mirror", "()V"⟩
abbrev cX5_transform : ByteArray := prog_7_method_13_code
def yX5_transform : MethodName := ⟨RX5, "transform", "(IIII)V"⟩
abbrev cX5_monomialAt : ByteArray := prog_7_method_14_code
def yX5_monomialAt : MethodName := ⟨RX5, "monomialAt", "(II)I"⟩
abbrev cX5_power : ByteArray := prog_7_method_15_code
def yX5_power : MethodName := ⟨RX5, "power", "(II)I"⟩
def RX6 : String := "GroebnerFan$Polynomial"
def TX6 : u_T := fun k => match k with
  | _ => ("GroebnerFan$Polynomial", "factors", "[I", true)
def tyX6 : Nat → FieldType := fun k => match k with
  | _ => .array .int
abbrev wsX60 : List Cond := u_ws RX6 TX6 1
theorem nmX6 : ∀ a, a < 1 → ∀ b, b < 1 → a ≠ b → (TX6 a).2.1 ≠ (TX6 b).2.1 := by decide +kernel
theorem tyX6_ok : ∀ k, k < 1 → parseFieldDescriptor (TX6 k).2.2.1 = some (tyX6 k) := by decide +kernel
abbrev cX6_init : ByteArray := prog_8_method_1_code
def yX6_init : MethodName := ⟨RX6, "<init>", "()V"⟩
abbrev cX6_clear : ByteArray := prog_8_method_2_code
def yX6_clear : MethodName := ⟨RX6, "clear", "()V"⟩
abbrev cX6_copyFrom : ByteArray := prog_8_method_3_code
def yX6_copyFrom : MethodName := ⟨RX6, "copyFrom", "(LGroebnerFan$Polynomial;)V"⟩
abbrev cX6_countTerms : ByteArray := prog_8_method_4_code
def yX6_countTerms : MethodName := ⟨RX6, "countTerms", "()I"⟩
abbrev cX6_valueAt : ByteArray := prog_8_method_5_code
def yX6_valueAt : MethodName := ⟨RX6, "valueAt", "(LGroebnerFan$Points;I)I"⟩
def RX7 : String := "GroebnerFan$ReducedBasis"
def TX7 : u_T := fun k => match k with
  | 0 => ("GroebnerFan$ReducedBasis", "heights", "[I", true)
  | 1 => ("GroebnerFan$ReducedBasis", "size", "I", false)
  | 2 => ("GroebnerFan$ReducedBasis", "polynomials", "[LGroebnerFan$BasisPolynomial;", true)
  | 3 => ("GroebnerFan$ReducedBasis", "wallTop", "I", false)
  | _ => ("GroebnerFan$ReducedBasis", "wallBottom", "I", false)
def tyX7 : Nat → FieldType := fun k => match k with
  | 0 => .array .int
  | 1 => .int
  | 2 => .array (.object "GroebnerFan$BasisPolynomial")
  | 3 => .int
  | _ => .int
abbrev wsX70 : List Cond := u_ws RX7 TX7 5
theorem nmX7 : ∀ a, a < 5 → ∀ b, b < 5 → a ≠ b → (TX7 a).2.1 ≠ (TX7 b).2.1 := by decide +kernel
theorem tyX7_ok : ∀ k, k < 5 → parseFieldDescriptor (TX7 k).2.2.1 = some (tyX7 k) := by decide +kernel
abbrev cX7_init : ByteArray := prog_9_method_1_code
def yX7_init : MethodName := ⟨RX7, "<init>", "()V"⟩
abbrev cX7_find : ByteArray := prog_9_method_2_code
def yX7_find : MethodName := ⟨RX7, "find", "(I)LGroebnerFan$BasisPolynomial;"⟩
abbrev cX7_compute : ByteArray := prog_9_method_3_code
def yX7_compute : MethodName := ⟨RX7, "compute", "(LGroebnerFan$Order;LGroebnerFan$Elimination;)V"⟩
abbrev cX7_topOf : ByteArray := prog_9_method_4_code
def yX7_topOf : MethodName := ⟨RX7, "topOf", "(I)I"⟩
abbrev cX7_nextColumn : ByteArray := prog_9_method_5_code
def yX7_nextColumn : MethodName := ⟨RX7, "nextColumn", "(LGroebnerFan$Order;)I"⟩
abbrev cX7_isClosed : ByteArray := prog_9_method_6_code
def yX7_isClosed : MethodName := ⟨RX7, "isClosed", "(I)Z"⟩
abbrev cX7_insertCorner : ByteArray := prog_9_method_7_code
def yX7_insertCorner : MethodName := ⟨RX7, "insertCorner", "(ILGroebnerFan$Elimination;)V"⟩
abbrev cX7_findWall : ByteArray := prog_9_method_8_code
def yX7_findWall : MethodName := ⟨RX7, "findWall", "()V"⟩
abbrev cX7_lowerWall : ByteArray := prog_9_method_9_code
def yX7_lowerWall : MethodName := ⟨RX7, "lowerWall", "(LGroebnerFan$BasisPolynomial;)V"⟩
abbrev cX7_hasWall : ByteArray := prog_9_method_10_code
def yX7_hasWall : MethodName := ⟨RX7, "hasWall", "()Z"⟩
abbrev cX7_hasAboveWall : ByteArray := prog_9_method_11_code
def yX7_hasAboveWall : MethodName := ⟨RX7, "hasAboveWall", "(II)Z"⟩
abbrev cX7_hasOnWall : ByteArray := prog_9_method_12_code
def yX7_hasOnWall : MethodName := ⟨RX7, "hasOnWall", "(II)Z"⟩
abbrev cX7_countCornersOutside : ByteArray := prog_9_method_13_code
def yX7_countCornersOutside : MethodName := ⟨RX7, "countCornersOutside", "(LGroebnerFan$ReducedBasis;)I"⟩
abbrev cX7_hasCorner : ByteArray := prog_9_method_14_code
def yX7_hasCorner : MethodName := ⟨RX7, "hasCorner", "(I)Z"⟩
abbrev cX7_holdsTermsOf : ByteArray := prog_9_method_15_code
def yX7_holdsTermsOf : MethodName := ⟨RX7, "holdsTermsOf", "(LGroebnerFan$BasisPolynomial;)Z"⟩
abbrev cX7_isMirrorOf : ByteArray := prog_9_method_16_code
def yX7_isMirrorOf : MethodName := ⟨RX7, "isMirrorOf", "(LGroebnerFan$ReducedBasis;)Z"⟩
abbrev cX7_rowLength : ByteArray := prog_9_method_17_code
def yX7_rowLength : MethodName := ⟨RX7, "rowLength", "(I)I"⟩
abbrev cX7_standardDegree : ByteArray := prog_9_method_18_code
def yX7_standardDegree : MethodName := ⟨RX7, "standardDegree", "()I"⟩
def RX8 : String := "GroebnerFan$Slot"
def TX8 : u_T := fun k => match k with
  | 0 => ("GroebnerFan$Slot", "kind", "I", false)
  | 1 => ("GroebnerFan$Slot", "length", "I", false)
  | _ => ("GroebnerFan$Slot", "numbers", "[I", true)
def tyX8 : Nat → FieldType := fun k => match k with
  | 0 => .int
  | 1 => .int
  | _ => .array .int
abbrev wsX80 : List Cond := u_ws RX8 TX8 3
theorem nmX8 : ∀ a, a < 3 → ∀ b, b < 3 → a ≠ b → (TX8 a).2.1 ≠ (TX8 b).2.1 := by decide +kernel
theorem tyX8_ok : ∀ k, k < 3 → parseFieldDescriptor (TX8 k).2.2.1 = some (tyX8 k) := by decide +kernel
abbrev cX8_init : ByteArray := prog_10_method_1_code
def yX8_init : MethodName := ⟨RX8, "<init>", "()V"⟩
abbrev cX8_holdZeros : ByteArray := prog_10_method_2_code
def yX8_holdZeros : MethodName := ⟨RX8, "holdZeros", "(I)V"⟩
abbrev cX8_holdPolynomial : ByteArray := prog_10_method_3_code
def yX8_holdPolynomial : MethodName := ⟨RX8, "holdPolynomial", "(LGroebnerFan$Polynomial;)V"⟩
abbrev cX8_errorForArrays : ByteArray := prog_10_method_4_code
def yX8_errorForArrays : MethodName := ⟨RX8, "errorForArrays", "()I"⟩
def RX9 : String := "GroebnerFan"
def TX9 : u_T := fun k => match k with
  | 0 => ("GroebnerFan", "points", "LGroebnerFan$Points;", true)
  | 1 => ("GroebnerFan", "current", "LGroebnerFan$Polynomial;", true)
  | 2 => ("GroebnerFan", "savedPoints", "LGroebnerFan$Points;", true)
  | 3 => ("GroebnerFan", "savedPolynomial", "LGroebnerFan$Polynomial;", true)
  | 4 => ("GroebnerFan", "isSaved", "Z", false)
  | 5 => ("GroebnerFan", "elimination", "LGroebnerFan$Elimination;", true)
  | 6 => ("GroebnerFan", "order", "LGroebnerFan$Order;", true)
  | 7 => ("GroebnerFan", "orderBasis", "LGroebnerFan$ReducedBasis;", true)
  | 8 => ("GroebnerFan", "fan", "LGroebnerFan$Fan;", true)
  | 9 => ("GroebnerFan", "input", "LGroebnerFan$InputText;", true)
  | 10 => ("GroebnerFan", "output", "Ljava/lang/StringBuilder;", true)
  | _ => ("GroebnerFan", "slots", "[LGroebnerFan$Slot;", true)
def tyX9 : Nat → FieldType := fun k => match k with
  | 0 => .object "GroebnerFan$Points"
  | 1 => .object "GroebnerFan$Polynomial"
  | 2 => .object "GroebnerFan$Points"
  | 3 => .object "GroebnerFan$Polynomial"
  | 4 => .boolean
  | 5 => .object "GroebnerFan$Elimination"
  | 6 => .object "GroebnerFan$Order"
  | 7 => .object "GroebnerFan$ReducedBasis"
  | 8 => .object "GroebnerFan$Fan"
  | 9 => .object "GroebnerFan$InputText"
  | 10 => .object "java/lang/StringBuilder"
  | _ => .array (.object "GroebnerFan$Slot")
abbrev wsX90 : List Cond := u_ws RX9 TX9 12
theorem nmX9 : ∀ a, a < 12 → ∀ b, b < 12 → a ≠ b → (TX9 a).2.1 ≠ (TX9 b).2.1 := by decide +kernel
theorem tyX9_ok : ∀ k, k < 12 → parseFieldDescriptor (TX9 k).2.2.1 = some (tyX9 k) := by decide +kernel
abbrev cX9_init : ByteArray := prog_1_method_1_code
def yX9_init : MethodName := ⟨RX9, "<init>", "()V"⟩
abbrev cX9_setPrime : ByteArray := prog_1_method_2_code
def yX9_setPrime : MethodName := ⟨RX9, "setPrime", "(I)I"⟩
abbrev cX9_prime : ByteArray := prog_1_method_3_code
def yX9_prime : MethodName := ⟨RX9, "prime", "()I"⟩
abbrev cX9_addPoint : ByteArray := prog_1_method_4_code
def yX9_addPoint : MethodName := ⟨RX9, "addPoint", "(II)I"⟩
abbrev cX9_removePoint : ByteArray := prog_1_method_5_code
def yX9_removePoint : MethodName := ⟨RX9, "removePoint", "(I)I"⟩
abbrev cX9_pointCount : ByteArray := prog_1_method_6_code
def yX9_pointCount : MethodName := ⟨RX9, "pointCount", "()I"⟩
abbrev cX9_pointX : ByteArray := prog_1_method_7_code
def yX9_pointX : MethodName := ⟨RX9, "pointX", "(I)I"⟩
abbrev cX9_pointY : ByteArray := prog_1_method_8_code
def yX9_pointY : MethodName := ⟨RX9, "pointY", "(I)I"⟩
abbrev cX9_swapCoordinates : ByteArray := prog_1_method_9_code
def yX9_swapCoordinates : MethodName := ⟨RX9, "swapCoordinates", "()I"⟩
abbrev cX9_translate : ByteArray := prog_1_method_10_code
def yX9_translate : MethodName := ⟨RX9, "translate", "(II)I"⟩
abbrev cX9_scale : ByteArray := prog_1_method_11_code
def yX9_scale : MethodName := ⟨RX9, "scale", "(II)I"⟩
abbrev cX9_columnHeight : ByteArray := prog_1_method_12_code
def yX9_columnHeight : MethodName := ⟨RX9, "columnHeight", "(IIII)I"⟩
abbrev cX9_cornerCount : ByteArray := prog_1_method_13_code
def yX9_cornerCount : MethodName := ⟨RX9, "cornerCount", "(III)I"⟩
abbrev cX9_corner : ByteArray := prog_1_method_14_code
def yX9_corner : MethodName := ⟨RX9, "corner", "(IIII)I"⟩
abbrev cX9_coneCount : ByteArray := prog_1_method_15_code
def yX9_coneCount : MethodName := ⟨RX9, "coneCount", "()I"⟩
abbrev cX9_wallNumerator : ByteArray := prog_1_method_16_code
def yX9_wallNumerator : MethodName := ⟨RX9, "wallNumerator", "(I)I"⟩
abbrev cX9_wallDenominator : ByteArray := prog_1_method_17_code
def yX9_wallDenominator : MethodName := ⟨RX9, "wallDenominator", "(I)I"⟩
abbrev cX9_firstConeContaining : ByteArray := prog_1_method_18_code
def yX9_firstConeContaining : MethodName := ⟨RX9, "firstConeContaining", "(II)I"⟩
abbrev cX9_conesContaining : ByteArray := prog_1_method_19_code
def yX9_conesContaining : MethodName := ⟨RX9, "conesContaining", "(II)I"⟩
abbrev cX9_coneHeight : ByteArray := prog_1_method_20_code
def yX9_coneHeight : MethodName := ⟨RX9, "coneHeight", "(II)I"⟩
abbrev cX9_basisSize : ByteArray := prog_1_method_21_code
def yX9_basisSize : MethodName := ⟨RX9, "basisSize", "(I)I"⟩
abbrev cX9_basisCorner : ByteArray := prog_1_method_22_code
def yX9_basisCorner : MethodName := ⟨RX9, "basisCorner", "(II)I"⟩
abbrev cX9_basisCoefficient : ByteArray := prog_1_method_23_code
def yX9_basisCoefficient : MethodName := ⟨RX9, "basisCoefficient", "(IIII)I"⟩
abbrev cX9_changedCorners : ByteArray := prog_1_method_24_code
def yX9_changedCorners : MethodName := ⟨RX9, "changedCorners", "(I)I"⟩
abbrev cX9_universalSize : ByteArray := prog_1_method_25_code
def yX9_universalSize : MethodName := ⟨RX9, "universalSize", "()I"⟩
abbrev cX9_universalDegree : ByteArray := prog_1_method_26_code
def yX9_universalDegree : MethodName := ⟨RX9, "universalDegree", "()I"⟩
abbrev cX9_mirroredCone : ByteArray := prog_1_method_27_code
def yX9_mirroredCone : MethodName := ⟨RX9, "mirroredCone", "(I)I"⟩
abbrev cX9_flattestCone : ByteArray := prog_1_method_28_code
def yX9_flattestCone : MethodName := ⟨RX9, "flattestCone", "()I"⟩
abbrev cX9_setCoefficient : ByteArray := prog_1_method_29_code
def yX9_setCoefficient : MethodName := ⟨RX9, "setCoefficient", "(III)I"⟩
abbrev cX9_coefficient : ByteArray := prog_1_method_30_code
def yX9_coefficient : MethodName := ⟨RX9, "coefficient", "(II)I"⟩
abbrev cX9_termCount : ByteArray := prog_1_method_31_code
def yX9_termCount : MethodName := ⟨RX9, "termCount", "()I"⟩
abbrev cX9_evaluate : ByteArray := prog_1_method_32_code
def yX9_evaluate : MethodName := ⟨RX9, "evaluate", "(I)I"⟩
abbrev cX9_isVanishing : ByteArray := prog_1_method_33_code
def yX9_isVanishing : MethodName := ⟨RX9, "isVanishing", "()I"⟩
abbrev cX9_reduceToNormalForm : ByteArray := prog_1_method_34_code
def yX9_reduceToNormalForm : MethodName := ⟨RX9, "reduceToNormalForm", "(I)I"⟩
abbrev cX9_interpolate : ByteArray := prog_1_method_35_code
def yX9_interpolate : MethodName := ⟨RX9, "interpolate", "(II)I"⟩
abbrev cX9_loadBasisPolynomial : ByteArray := prog_1_method_36_code
def yX9_loadBasisPolynomial : MethodName := ⟨RX9, "loadBasisPolynomial", "(II)I"⟩
abbrev cX9_appendInput : ByteArray := prog_1_method_37_code
def yX9_appendInput : MethodName := ⟨RX9, "appendInput", "(I)I"⟩
abbrev cX9_inputLength : ByteArray := prog_1_method_38_code
def yX9_inputLength : MethodName := ⟨RX9, "inputLength", "()I"⟩
abbrev cX9_parsePoints : ByteArray := prog_1_method_39_code
def yX9_parsePoints : MethodName := ⟨RX9, "parsePoints", "()I"⟩
abbrev cX9_format : ByteArray := prog_1_method_40_code
def yX9_format : MethodName := ⟨RX9, "format", "(II)I"⟩
abbrev cX9_outputByte : ByteArray := prog_1_method_41_code
def yX9_outputByte : MethodName := ⟨RX9, "outputByte", "(I)I"⟩
abbrev cX9_newArray : ByteArray := prog_1_method_42_code
def yX9_newArray : MethodName := ⟨RX9, "newArray", "(II)I"⟩
abbrev cX9_setElement : ByteArray := prog_1_method_43_code
def yX9_setElement : MethodName := ⟨RX9, "setElement", "(III)I"⟩
abbrev cX9_element : ByteArray := prog_1_method_44_code
def yX9_element : MethodName := ⟨RX9, "element", "(II)I"⟩
abbrev cX9_storePolynomial : ByteArray := prog_1_method_45_code
def yX9_storePolynomial : MethodName := ⟨RX9, "storePolynomial", "(I)I"⟩
abbrev cX9_loadPolynomial : ByteArray := prog_1_method_46_code
def yX9_loadPolynomial : MethodName := ⟨RX9, "loadPolynomial", "(I)I"⟩
abbrev cX9_clearSlot : ByteArray := prog_1_method_47_code
def yX9_clearSlot : MethodName := ⟨RX9, "clearSlot", "(I)I"⟩
abbrev cX9_firstDifference : ByteArray := prog_1_method_48_code
def yX9_firstDifference : MethodName := ⟨RX9, "firstDifference", "(II)I"⟩
abbrev cX9_saveSnapshot : ByteArray := prog_1_method_49_code
def yX9_saveSnapshot : MethodName := ⟨RX9, "saveSnapshot", "()I"⟩
abbrev cX9_restoreSnapshot : ByteArray := prog_1_method_50_code
def yX9_restoreSnapshot : MethodName := ⟨RX9, "restoreSnapshot", "()I"⟩
abbrev cX9_isAllowedPrime : ByteArray := prog_1_method_51_code
def yX9_isAllowedPrime : MethodName := ⟨RX9, "isAllowedPrime", "(I)Z"⟩
abbrev cX9_isExponent : ByteArray := prog_1_method_52_code
def yX9_isExponent : MethodName := ⟨RX9, "isExponent", "(I)Z"⟩
abbrev cX9_isWeight : ByteArray := prog_1_method_53_code
def yX9_isWeight : MethodName := ⟨RX9, "isWeight", "(II)Z"⟩
abbrev cX9_isOrder : ByteArray := prog_1_method_54_code
def yX9_isOrder : MethodName := ⟨RX9, "isOrder", "(III)Z"⟩
abbrev cX9_decimalExponents : ByteArray := prog_1_method_55_code
def yX9_decimalExponents : MethodName := ⟨RX9, "decimalExponents", "(I)I"⟩
abbrev cX9_computeOrder : ByteArray := prog_1_method_56_code
def yX9_computeOrder : MethodName := ⟨RX9, "computeOrder", "(III)V"⟩
abbrev cX9_refreshFan : ByteArray := prog_1_method_57_code
def yX9_refreshFan : MethodName := ⟨RX9, "refreshFan", "()V"⟩
abbrev cX9_findCone : ByteArray := prog_1_method_58_code
def yX9_findCone : MethodName := ⟨RX9, "findCone", "(I)LGroebnerFan$ReducedBasis;"⟩
abbrev cX9_findBasisPolynomial : ByteArray := prog_1_method_59_code
def yX9_findBasisPolynomial : MethodName := ⟨RX9, "findBasisPolynomial", "(II)LGroebnerFan$BasisPolynomial;"⟩
abbrev cX9_findSlot : ByteArray := prog_1_method_60_code
def yX9_findSlot : MethodName := ⟨RX9, "findSlot", "(I)LGroebnerFan$Slot;"⟩
abbrev cX9_replaceByInterpolation : ByteArray := prog_1_method_61_code
def yX9_replaceByInterpolation : MethodName := ⟨RX9, "replaceByInterpolation", "()I"⟩
abbrev cX9_writeTerm : ByteArray := prog_1_method_62_code
def yX9_writeTerm : MethodName := ⟨RX9, "writeTerm", "(II)V"⟩
def RX10 : String := "GroebnerFanModel"
def TX10 : u_T := fun k => match k with
  | 0 => ("GroebnerFanModel", "p", "I", false)
  | 1 => ("GroebnerFanModel", "points", "I", false)
  | 2 => ("GroebnerFanModel", "xs", "[I", true)
  | 3 => ("GroebnerFanModel", "ys", "[I", true)
  | 4 => ("GroebnerFanModel", "current", "[I", true)
  | 5 => ("GroebnerFanModel", "isFanKnown", "Z", false)
  | 6 => ("GroebnerFanModel", "order", "[I", true)
  | 7 => ("GroebnerFanModel", "isStandard", "[Z", true)
  | 8 => ("GroebnerFanModel", "standards", "I", false)
  | 9 => ("GroebnerFanModel", "standard", "[I", true)
  | 10 => ("GroebnerFanModel", "reduced", "[I", true)
  | 11 => ("GroebnerFanModel", "combined", "[I", true)
  | 12 => ("GroebnerFanModel", "pivots", "[I", true)
  | 13 => ("GroebnerFanModel", "vector", "[I", true)
  | 14 => ("GroebnerFanModel", "factors", "[I", true)
  | 15 => ("GroebnerFanModel", "heights", "[I", true)
  | 16 => ("GroebnerFanModel", "corners", "I", false)
  | 17 => ("GroebnerFanModel", "corner", "[I", true)
  | 18 => ("GroebnerFanModel", "polynomials", "[I", true)
  | 19 => ("GroebnerFanModel", "cones", "I", false)
  | 20 => ("GroebnerFanModel", "tops", "[I", true)
  | 21 => ("GroebnerFanModel", "bottoms", "[I", true)
  | 22 => ("GroebnerFanModel", "sizes", "[I", true)
  | 23 => ("GroebnerFanModel", "coneHeights", "[I", true)
  | 24 => ("GroebnerFanModel", "coneCorners", "[I", true)
  | 25 => ("GroebnerFanModel", "coneCells", "[I", true)
  | 26 => ("GroebnerFanModel", "wanted", "[I", true)
  | 27 => ("GroebnerFanModel", "system", "[I", true)
  | 28 => ("GroebnerFanModel", "unknowns", "[I", true)
  | 29 => ("GroebnerFanModel", "input", "[I", true)
  | 30 => ("GroebnerFanModel", "length", "I", false)
  | 31 => ("GroebnerFanModel", "end", "I", false)
  | 32 => ("GroebnerFanModel", "at", "I", false)
  | 33 => ("GroebnerFanModel", "number", "I", false)
  | 34 => ("GroebnerFanModel", "output", "[I", true)
  | 35 => ("GroebnerFanModel", "written", "I", false)
  | 36 => ("GroebnerFanModel", "kinds", "[I", true)
  | 37 => ("GroebnerFanModel", "lengths", "[I", true)
  | 38 => ("GroebnerFanModel", "elements", "[I", true)
  | 39 => ("GroebnerFanModel", "stored", "[I", true)
  | 40 => ("GroebnerFanModel", "isSaved", "Z", false)
  | 41 => ("GroebnerFanModel", "savedPrime", "I", false)
  | 42 => ("GroebnerFanModel", "savedPoints", "I", false)
  | 43 => ("GroebnerFanModel", "savedXs", "[I", true)
  | 44 => ("GroebnerFanModel", "savedYs", "[I", true)
  | _ => ("GroebnerFanModel", "savedCells", "[I", true)
def tyX10 : Nat → FieldType := fun k => match k with
  | 0 => .int
  | 1 => .int
  | 2 => .array .int
  | 3 => .array .int
  | 4 => .array .int
  | 5 => .boolean
  | 6 => .array .int
  | 7 => .array .boolean
  | 8 => .int
  | 9 => .array .int
  | 10 => .array .int
  | 11 => .array .int
  | 12 => .array .int
  | 13 => .array .int
  | 14 => .array .int
  | 15 => .array .int
  | 16 => .int
  | 17 => .array .int
  | 18 => .array .int
  | 19 => .int
  | 20 => .array .int
  | 21 => .array .int
  | 22 => .array .int
  | 23 => .array .int
  | 24 => .array .int
  | 25 => .array .int
  | 26 => .array .int
  | 27 => .array .int
  | 28 => .array .int
  | 29 => .array .int
  | 30 => .int
  | 31 => .int
  | 32 => .int
  | 33 => .int
  | 34 => .array .int
  | 35 => .int
  | 36 => .array .int
  | 37 => .array .int
  | 38 => .array .int
  | 39 => .array .int
  | 40 => .boolean
  | 41 => .int
  | 42 => .int
  | 43 => .array .int
  | 44 => .array .int
  | _ => .array .int
abbrev wsX100 : List Cond := u_ws RX10 TX10 46
theorem nmX10 : ∀ a, a < 46 → ∀ b, b < 46 → a ≠ b → (TX10 a).2.1 ≠ (TX10 b).2.1 := by decide +kernel
theorem tyX10_ok : ∀ k, k < 46 → parseFieldDescriptor (TX10 k).2.2.1 = some (tyX10 k) := by decide +kernel
abbrev cX10_init : ByteArray := prog_12_method_1_code
def yX10_init : MethodName := ⟨RX10, "<init>", "()V"⟩
abbrev cX10_isIn : ByteArray := prog_12_method_2_code
def yX10_isIn : MethodName := ⟨RX10, "isIn", "(III)Z"⟩
abbrev cX10_isPoint : ByteArray := prog_12_method_3_code
def yX10_isPoint : MethodName := ⟨RX10, "isPoint", "(I)Z"⟩
abbrev cX10_isExponent : ByteArray := prog_12_method_4_code
def yX10_isExponent : MethodName := ⟨RX10, "isExponent", "(I)Z"⟩
abbrev cX10_power : ByteArray := prog_12_method_5_code
def yX10_power : MethodName := ⟨RX10, "power", "(II)I"⟩
abbrev cX10_inverse : ByteArray := prog_12_method_6_code
def yX10_inverse : MethodName := ⟨RX10, "inverse", "(I)I"⟩
abbrev cX10_isPrime : ByteArray := prog_12_method_7_code
def yX10_isPrime : MethodName := ⟨RX10, "isPrime", "(I)Z"⟩
abbrev cX10_clearCurrent : ByteArray := prog_12_method_8_code
def yX10_clearCurrent : MethodName := ⟨RX10, "clearCurrent", "()V"⟩
abbrev cX10_setPrime : ByteArray := prog_12_method_9_code
def yX10_setPrime : MethodName := ⟨RX10, "setPrime", "(I)I"⟩
abbrev cX10_prime : ByteArray := prog_12_method_10_code
def yX10_prime : MethodName := ⟨RX10, "prime", "()I"⟩
abbrev cX10_addPoint : ByteArray := prog_12_method_11_code
def yX10_addPoint : MethodName := ⟨RX10, "addPoint", "(II)I"⟩
abbrev cX10_removePoint : ByteArray := prog_12_method_12_code
def yX10_removePoint : MethodName := ⟨RX10, "removePoint", "(I)I"⟩
abbrev cX10_pointCount : ByteArray := prog_12_method_13_code
def yX10_pointCount : MethodName := ⟨RX10, "pointCount", "()I"⟩
abbrev cX10_pointX : ByteArray := prog_12_method_14_code
def yX10_pointX : MethodName := ⟨RX10, "pointX", "(I)I"⟩
abbrev cX10_pointY : ByteArray := prog_12_method_15_code
def yX10_pointY : MethodName := ⟨RX10, "pointY", "(I)I"⟩
abbrev cX10_swapCoordinates : ByteArray := prog_12_method_16_code
def yX10_swapCoordinates : MethodName := ⟨RX10, "swapCoordinates", "()I"⟩
abbrev cX10_translate : ByteArray := prog_12_method_17_code
def yX10_translate : MethodName := ⟨RX10, "translate", "(II)I"⟩
abbrev cX10_scale : ByteArray := prog_12_method_18_code
def yX10_scale : MethodName := ⟨RX10, "scale", "(II)I"⟩
abbrev cX10_isGreater : ByteArray := prog_12_method_19_code
def yX10_isGreater : MethodName := ⟨RX10, "isGreater", "(IIIII)Z"⟩
abbrev cX10_sort : ByteArray := prog_12_method_20_code
def yX10_sort : MethodName := ⟨RX10, "sort", "(III)V"⟩
abbrev cX10_reduce : ByteArray := prog_12_method_21_code
def yX10_reduce : MethodName := ⟨RX10, "reduce", "(I)I"⟩
abbrev cX10_becomesStandard : ByteArray := prog_12_method_22_code
def yX10_becomesStandard : MethodName := ⟨RX10, "becomesStandard", "(II)V"⟩
abbrev cX10_becomesCorner : ByteArray := prog_12_method_23_code
def yX10_becomesCorner : MethodName := ⟨RX10, "becomesCorner", "(I)V"⟩
abbrev cX10_isCorner : ByteArray := prog_12_method_24_code
def yX10_isCorner : MethodName := ⟨RX10, "isCorner", "(I)Z"⟩
abbrev cX10_compute : ByteArray := prog_12_method_25_code
def yX10_compute : MethodName := ⟨RX10, "compute", "(III)V"⟩
abbrev cX10_sortCorners : ByteArray := prog_12_method_26_code
def yX10_sortCorners : MethodName := ⟨RX10, "sortCorners", "()V"⟩
abbrev cX10_isWeight : ByteArray := prog_12_method_27_code
def yX10_isWeight : MethodName := ⟨RX10, "isWeight", "(II)Z"⟩
abbrev cX10_columnHeight : ByteArray := prog_12_method_28_code
def yX10_columnHeight : MethodName := ⟨RX10, "columnHeight", "(IIII)I"⟩
abbrev cX10_cornerCount : ByteArray := prog_12_method_29_code
def yX10_cornerCount : MethodName := ⟨RX10, "cornerCount", "(III)I"⟩
abbrev cX10_exponents : ByteArray := prog_12_method_30_code
def yX10_exponents : MethodName := ⟨RX10, "exponents", "(I)I"⟩
abbrev cX10_corner : ByteArray := prog_12_method_31_code
def yX10_corner : MethodName := ⟨RX10, "corner", "(IIII)I"⟩
abbrev cX10_divisor : ByteArray := prog_12_method_32_code
def yX10_divisor : MethodName := ⟨RX10, "divisor", "(II)I"⟩
abbrev cX10_wall : ByteArray := prog_12_method_33_code
def yX10_wall : MethodName := ⟨RX10, "wall", "(I)V"⟩
abbrev cX10_keep : ByteArray := prog_12_method_34_code
def yX10_keep : MethodName := ⟨RX10, "keep", "(I)V"⟩
abbrev cX10_fan : ByteArray := prog_12_method_35_code
def yX10_fan : MethodName := ⟨RX10, "fan", "()V"⟩
abbrev cX10_isCone : ByteArray := prog_12_method_36_code
def yX10_isCone : MethodName := ⟨RX10, "isCone", "(I)Z"⟩
abbrev cX10_isBasis : ByteArray := prog_12_method_37_code
def yX10_isBasis : MethodName := ⟨RX10, "isBasis", "(II)Z"⟩
abbrev cX10_cell : ByteArray := prog_12_method_38_code
def yX10_cell : MethodName := ⟨RX10, "cell", "(III)I"⟩
abbrev cX10_coneCount : ByteArray := prog_12_method_39_code
def yX10_coneCount : MethodName := ⟨RX10, "coneCount", "()I"⟩
abbrev cX10_wallNumerator : ByteArray := prog_12_method_40_code
def yX10_wallNumerator : MethodName := ⟨RX10, "wallNumerator", "(I)I"⟩
abbrev cX10_wallDenominator : ByteArray := prog_12_method_41_code
def yX10_wallDenominator : MethodName := ⟨RX10, "wallDenominator", "(I)I"⟩
abbrev cX10_contains : ByteArray := prog_12_method_42_code
def yX10_contains : MethodName := ⟨RX10, "contains", "(III)Z"⟩
abbrev cX10_firstConeContaining : ByteArray := prog_12_method_43_code
def yX10_firstConeContaining : MethodName := ⟨RX10, "firstConeContaining", "(II)I"⟩
abbrev cX10_conesContaining : ByteArray := prog_12_method_44_code
def yX10_conesContaining : MethodName := ⟨RX10, "conesContaining", "(II)I"⟩
abbrev cX10_coneHeight : ByteArray := prog_12_method_45_code
def yX10_coneHeight : MethodName := ⟨RX10, "coneHeight", "(II)I"⟩
abbrev cX10_basisSize : ByteArray := prog_12_method_46_code
def yX10_basisSize : MethodName := ⟨RX10, "basisSize", "(I)I"⟩
abbrev cX10_basisCorner : ByteArray := prog_12_method_47_code
def yX10_basisCorner : MethodName := ⟨RX10, "basisCorner", "(II)I"⟩
abbrev cX10_basisCoefficient : ByteArray := prog_12_method_48_code
def yX10_basisCoefficient : MethodName := ⟨RX10, "basisCoefficient", "(IIII)I"⟩
abbrev cX10_changedCorners : ByteArray := prog_12_method_49_code
def yX10_changedCorners : MethodName := ⟨RX10, "changedCorners", "(I)I"⟩
abbrev cX10_isSame : ByteArray := prog_12_method_50_code
def yX10_isSame : MethodName := ⟨RX10, "isSame", "(IIII)Z"⟩
abbrev cX10_isNew : ByteArray := prog_12_method_51_code
def yX10_isNew : MethodName := ⟨RX10, "isNew", "(II)Z"⟩
abbrev cX10_universalSize : ByteArray := prog_12_method_52_code
def yX10_universalSize : MethodName := ⟨RX10, "universalSize", "()I"⟩
abbrev cX10_universalDegree : ByteArray := prog_12_method_53_code
def yX10_universalDegree : MethodName := ⟨RX10, "universalDegree", "()I"⟩
abbrev cX10_isMirrored : ByteArray := prog_12_method_54_code
def yX10_isMirrored : MethodName := ⟨RX10, "isMirrored", "(II)Z"⟩
abbrev cX10_mirroredCone : ByteArray := prog_12_method_55_code
def yX10_mirroredCone : MethodName := ⟨RX10, "mirroredCone", "(I)I"⟩
abbrev cX10_steepness : ByteArray := prog_12_method_56_code
def yX10_steepness : MethodName := ⟨RX10, "steepness", "(I)I"⟩
abbrev cX10_flattestCone : ByteArray := prog_12_method_57_code
def yX10_flattestCone : MethodName := ⟨RX10, "flattestCone", "()I"⟩
abbrev cX10_setCoefficient : ByteArray := prog_12_method_58_code
def yX10_setCoefficient : MethodName := ⟨RX10, "setCoefficient", "(III)I"⟩
abbrev cX10_coefficient : ByteArray := prog_12_method_59_code
def yX10_coefficient : MethodName := ⟨RX10, "coefficient", "(II)I"⟩
abbrev cX10_termCount : ByteArray := prog_12_method_60_code
def yX10_termCount : MethodName := ⟨RX10, "termCount", "()I"⟩
abbrev cX10_valueAt : ByteArray := prog_12_method_61_code
def yX10_valueAt : MethodName := ⟨RX10, "valueAt", "(I)I"⟩
abbrev cX10_evaluate : ByteArray := prog_12_method_62_code
def yX10_evaluate : MethodName := ⟨RX10, "evaluate", "(I)I"⟩
abbrev cX10_isVanishing : ByteArray := prog_12_method_63_code
def yX10_isVanishing : MethodName := ⟨RX10, "isVanishing", "()I"⟩
abbrev cX10_setUp : ByteArray := prog_12_method_64_code
def yX10_setUp : MethodName := ⟨RX10, "setUp", "(I)V"⟩
abbrev cX10_exchange : ByteArray := prog_12_method_65_code
def yX10_exchange : MethodName := ⟨RX10, "exchange", "(II)V"⟩
abbrev cX10_solve : ByteArray := prog_12_method_66_code
def yX10_solve : MethodName := ⟨RX10, "solve", "(I)I"⟩
abbrev cX10_reduceToNormalForm : ByteArray := prog_12_method_67_code
def yX10_reduceToNormalForm : MethodName := ⟨RX10, "reduceToNormalForm", "(I)I"⟩
abbrev cX10_interpolate : ByteArray := prog_12_method_68_code
def yX10_interpolate : MethodName := ⟨RX10, "interpolate", "(II)I"⟩
abbrev cX10_loadBasisPolynomial : ByteArray := prog_12_method_69_code
def yX10_loadBasisPolynomial : MethodName := ⟨RX10, "loadBasisPolynomial", "(II)I"⟩
abbrev cX10_appendInput : ByteArray := prog_12_method_70_code
def yX10_appendInput : MethodName := ⟨RX10, "appendInput", "(I)I"⟩
abbrev cX10_inputLength : ByteArray := prog_12_method_71_code
def yX10_inputLength : MethodName := ⟨RX10, "inputLength", "()I"⟩
abbrev cX10_isAt : ByteArray := prog_12_method_72_code
def yX10_isAt : MethodName := ⟨RX10, "isAt", "(II)Z"⟩
abbrev cX10_takesNumber : ByteArray := prog_12_method_73_code
def yX10_takesNumber : MethodName := ⟨RX10, "takesNumber", "()Z"⟩
abbrev cX10_takesPoint : ByteArray := prog_12_method_74_code
def yX10_takesPoint : MethodName := ⟨RX10, "takesPoint", "(Z)I"⟩
abbrev cX10_takesList : ByteArray := prog_12_method_75_code
def yX10_takesList : MethodName := ⟨RX10, "takesList", "(Z)I"⟩
abbrev cX10_parsePoints : ByteArray := prog_12_method_76_code
def yX10_parsePoints : MethodName := ⟨RX10, "parsePoints", "()I"⟩
abbrev cX10_write : ByteArray := prog_12_method_77_code
def yX10_write : MethodName := ⟨RX10, "write", "(I)V"⟩
abbrev cX10_writeTerm : ByteArray := prog_12_method_78_code
def yX10_writeTerm : MethodName := ⟨RX10, "writeTerm", "(II)V"⟩
abbrev cX10_format : ByteArray := prog_12_method_79_code
def yX10_format : MethodName := ⟨RX10, "format", "(II)I"⟩
abbrev cX10_outputByte : ByteArray := prog_12_method_80_code
def yX10_outputByte : MethodName := ⟨RX10, "outputByte", "(I)I"⟩
abbrev cX10_isSlot : ByteArray := prog_12_method_81_code
def yX10_isSlot : MethodName := ⟨RX10, "isSlot", "(I)Z"⟩
abbrev cX10_newArray : ByteArray := prog_12_method_82_code
def yX10_newArray : MethodName := ⟨RX10, "newArray", "(II)I"⟩
abbrev cX10_amiss : ByteArray := prog_12_method_83_code
def yX10_amiss : MethodName := ⟨RX10, "amiss", "(II)I"⟩
abbrev cX10_setElement : ByteArray := prog_12_method_84_code
def yX10_setElement : MethodName := ⟨RX10, "setElement", "(III)I"⟩
abbrev cX10_element : ByteArray := prog_12_method_85_code
def yX10_element : MethodName := ⟨RX10, "element", "(II)I"⟩
abbrev cX10_storePolynomial : ByteArray := prog_12_method_86_code
def yX10_storePolynomial : MethodName := ⟨RX10, "storePolynomial", "(I)I"⟩
abbrev cX10_loadPolynomial : ByteArray := prog_12_method_87_code
def yX10_loadPolynomial : MethodName := ⟨RX10, "loadPolynomial", "(I)I"⟩
abbrev cX10_clearSlot : ByteArray := prog_12_method_88_code
def yX10_clearSlot : MethodName := ⟨RX10, "clearSlot", "(I)I"⟩
abbrev cX10_firstDifference : ByteArray := prog_12_method_89_code
def yX10_firstDifference : MethodName := ⟨RX10, "firstDifference", "(II)I"⟩
abbrev cX10_saveSnapshot : ByteArray := prog_12_method_90_code
def yX10_saveSnapshot : MethodName := ⟨RX10, "saveSnapshot", "()I"⟩
abbrev cX10_restoreSnapshot : ByteArray := prog_12_method_91_code
def yX10_restoreSnapshot : MethodName := ⟨RX10, "restoreSnapshot", "()I"⟩
def RJx145de : String := "java/io/Serializable"
def TJx145de : u_T := fun k => match k with
  | _ => ("", "", "", false)
def tyJx145de : Nat → FieldType := fun k => match k with
  | _ => .int
abbrev wsJx145de0 : List Cond := u_ws RJx145de TJx145de 0
theorem nmJx145de : ∀ a, a < 0 → ∀ b, b < 0 → a ≠ b → (TJx145de a).2.1 ≠ (TJx145de b).2.1 := by decide +kernel
theorem tyJx145de_ok : ∀ k, k < 0 → parseFieldDescriptor (TJx145de k).2.2.1 = some (tyJx145de k) := by decide +kernel
def RJ5 : String := "java/lang/AbstractStringBuilder"
def TJ5 : u_T := fun k => match k with
  | _ => ("", "", "", false)
def tyJ5 : Nat → FieldType := fun k => match k with
  | _ => .int
abbrev wsJ50 : List Cond := u_ws RJ5 TJ5 0
theorem nmJ5 : ∀ a, a < 0 → ∀ b, b < 0 → a ≠ b → (TJ5 a).2.1 ≠ (TJ5 b).2.1 := by decide +kernel
theorem tyJ5_ok : ∀ k, k < 0 → parseFieldDescriptor (TJ5 k).2.2.1 = some (tyJ5 k) := by decide +kernel
abbrev cJ5_init_d00df : ByteArray := prog_13_method_2_code
def yJ5_init_d00df : MethodName := ⟨RJ5, "<init>", "(I)V"⟩
abbrev cJ5_length_8abf5 : ByteArray := prog_13_method_6_code
def yJ5_length_8abf5 : MethodName := ⟨RJ5, "length", "()I"⟩
abbrev cJ5_ensureCapacityInternal_d00df : ByteArray := prog_13_method_9_code
def yJ5_ensureCapacityInternal_d00df : MethodName := ⟨RJ5, "ensureCapacityInternal", "(I)V"⟩
abbrev cJ5_newCapacity_0f7a4 : ByteArray := prog_13_method_10_code
def yJ5_newCapacity_0f7a4 : MethodName := ⟨RJ5, "newCapacity", "(I)I"⟩
abbrev cJ5_inflate_da8c8 : ByteArray := prog_13_method_11_code
def yJ5_inflate_da8c8 : MethodName := ⟨RJ5, "inflate", "()V"⟩
abbrev cJ5_setLength_d00df : ByteArray := prog_13_method_13_code
def yJ5_setLength_d00df : MethodName := ⟨RJ5, "setLength", "(I)V"⟩
abbrev cJ5_charAt_5068e : ByteArray := prog_13_method_14_code
def yJ5_charAt_5068e : MethodName := ⟨RJ5, "charAt", "(I)C"⟩
abbrev cJ5_append_3fe6f : ByteArray := prog_13_method_31_code
def yJ5_append_3fe6f : MethodName := ⟨RJ5, "append", "(C)Ljava/lang/AbstractStringBuilder;"⟩
abbrev cJ5_append_c97b9 : ByteArray := prog_13_method_32_code
def yJ5_append_c97b9 : MethodName := ⟨RJ5, "append", "(I)Ljava/lang/AbstractStringBuilder;"⟩
abbrev cJ5_isLatin1_aae02 : ByteArray := prog_13_method_68_code
def yJ5_isLatin1_aae02 : MethodName := ⟨RJ5, "isLatin1", "()Z"⟩
def RJx2cfe8 : String := "java/lang/Appendable"
def TJx2cfe8 : u_T := fun k => match k with
  | _ => ("", "", "", false)
def tyJx2cfe8 : Nat → FieldType := fun k => match k with
  | _ => .int
abbrev wsJx2cfe80 : List Cond := u_ws RJx2cfe8 TJx2cfe8 0
theorem nmJx2cfe8 : ∀ a, a < 0 → ∀ b, b < 0 → a ≠ b → (TJx2cfe8 a).2.1 ≠ (TJx2cfe8 b).2.1 := by decide +kernel
theorem tyJx2cfe8_ok : ∀ k, k < 0 → parseFieldDescriptor (TJx2cfe8 k).2.2.1 = some (tyJx2cfe8 k) := by decide +kernel
def RJx9f9b0 : String := "java/lang/CharSequence"
def TJx9f9b0 : u_T := fun k => match k with
  | _ => ("", "", "", false)
def tyJx9f9b0 : Nat → FieldType := fun k => match k with
  | _ => .int
abbrev wsJx9f9b00 : List Cond := u_ws RJx9f9b0 TJx9f9b0 0
theorem nmJx9f9b0 : ∀ a, a < 0 → ∀ b, b < 0 → a ≠ b → (TJx9f9b0 a).2.1 ≠ (TJx9f9b0 b).2.1 := by decide +kernel
theorem tyJx9f9b0_ok : ∀ k, k < 0 → parseFieldDescriptor (TJx9f9b0 k).2.2.1 = some (tyJx9f9b0 k) := by decide +kernel
def RJx8e188 : String := "java/lang/Cloneable"
def TJx8e188 : u_T := fun k => match k with
  | _ => ("", "", "", false)
def tyJx8e188 : Nat → FieldType := fun k => match k with
  | _ => .int
abbrev wsJx8e1880 : List Cond := u_ws RJx8e188 TJx8e188 0
theorem nmJx8e188 : ∀ a, a < 0 → ∀ b, b < 0 → a ≠ b → (TJx8e188 a).2.1 ≠ (TJx8e188 b).2.1 := by decide +kernel
theorem tyJx8e188_ok : ∀ k, k < 0 → parseFieldDescriptor (TJx8e188 k).2.2.1 = some (tyJx8e188 k) := by decide +kernel
def RJxb160c : String := "java/lang/Comparable"
def TJxb160c : u_T := fun k => match k with
  | _ => ("", "", "", false)
def tyJxb160c : Nat → FieldType := fun k => match k with
  | _ => .int
abbrev wsJxb160c0 : List Cond := u_ws RJxb160c TJxb160c 0
theorem nmJxb160c : ∀ a, a < 0 → ∀ b, b < 0 → a ≠ b → (TJxb160c a).2.1 ≠ (TJxb160c b).2.1 := by decide +kernel
theorem tyJxb160c_ok : ∀ k, k < 0 → parseFieldDescriptor (TJxb160c k).2.2.1 = some (tyJxb160c k) := by decide +kernel
def RJ6 : String := "java/lang/Integer"
def TJ6 : u_T := fun k => match k with
  | _ => ("", "", "", false)
def tyJ6 : Nat → FieldType := fun k => match k with
  | _ => .int
abbrev wsJ60 : List Cond := u_ws RJ6 TJ6 0
theorem nmJ6 : ∀ a, a < 0 → ∀ b, b < 0 → a ≠ b → (TJ6 a).2.1 ≠ (TJ6 b).2.1 := by decide +kernel
theorem tyJ6_ok : ∀ k, k < 0 → parseFieldDescriptor (TJ6 k).2.2.1 = some (tyJ6 k) := by decide +kernel
abbrev cJ6_getChars_ba4f3 : ByteArray := prog_15_method_12_code
def yJ6_getChars_ba4f3 : MethodName := ⟨RJ6, "getChars", "(II[B)I"⟩
abbrev cJ6_stringSize_0f7a4 : ByteArray := prog_15_method_13_code
def yJ6_stringSize_0f7a4 : MethodName := ⟨RJ6, "stringSize", "(I)I"⟩
def RJ9 : String := "java/lang/Math"
def TJ9 : u_T := fun k => match k with
  | _ => ("", "", "", false)
def tyJ9 : Nat → FieldType := fun k => match k with
  | _ => .int
abbrev wsJ90 : List Cond := u_ws RJ9 TJ9 0
theorem nmJ9 : ∀ a, a < 0 → ∀ b, b < 0 → a ≠ b → (TJ9 a).2.1 ≠ (TJ9 b).2.1 := by decide +kernel
theorem tyJ9_ok : ∀ k, k < 0 → parseFieldDescriptor (TJ9 k).2.2.1 = some (tyJ9 k) := by decide +kernel
abbrev cJ9_floorMod_7cf53 : ByteArray := prog_16_method_50_code
def yJ9_floorMod_7cf53 : MethodName := ⟨RJ9, "floorMod", "(II)I"⟩
abbrev cJ9_max_7cf53 : ByteArray := prog_16_method_65_code
def yJ9_max_7cf53 : MethodName := ⟨RJ9, "max", "(II)I"⟩
abbrev cJ9_min_7cf53 : ByteArray := prog_16_method_69_code
def yJ9_min_7cf53 : MethodName := ⟨RJ9, "min", "(II)I"⟩
def RJxd2413 : String := "java/lang/Number"
def TJxd2413 : u_T := fun k => match k with
  | _ => ("", "", "", false)
def tyJxd2413 : Nat → FieldType := fun k => match k with
  | _ => .int
abbrev wsJxd24130 : List Cond := u_ws RJxd2413 TJxd2413 0
theorem nmJxd2413 : ∀ a, a < 0 → ∀ b, b < 0 → a ≠ b → (TJxd2413 a).2.1 ≠ (TJxd2413 b).2.1 := by decide +kernel
theorem tyJxd2413_ok : ∀ k, k < 0 → parseFieldDescriptor (TJxd2413 k).2.2.1 = some (tyJxd2413 k) := by decide +kernel
def RJ0 : String := "java/lang/String"
def TJ0 : u_T := fun k => match k with
  | _ => ("", "", "", false)
def tyJ0 : Nat → FieldType := fun k => match k with
  | _ => .int
abbrev wsJ00 : List Cond := u_ws RJ0 TJ0 0
theorem nmJ0 : ∀ a, a < 0 → ∀ b, b < 0 → a ≠ b → (TJ0 a).2.1 ≠ (TJ0 b).2.1 := by decide +kernel
theorem tyJ0_ok : ∀ k, k < 0 → parseFieldDescriptor (TJ0 k).2.2.1 = some (tyJ0 k) := by decide +kernel
abbrev cJ0_checkIndex_df160 : ByteArray := prog_18_method_155_code
def yJ0_checkIndex_df160 : MethodName := ⟨RJ0, "checkIndex", "(II)V"⟩
abbrev cJ0_checkBoundsOffCount_cabcc : ByteArray := prog_18_method_157_code
def yJ0_checkBoundsOffCount_cabcc : MethodName := ⟨RJ0, "checkBoundsOffCount", "(III)I"⟩
abbrev cJ0_checkBoundsBeginEnd_23922 : ByteArray := prog_18_method_158_code
def yJ0_checkBoundsBeginEnd_23922 : MethodName := ⟨RJ0, "checkBoundsBeginEnd", "(III)V"⟩
def RJ4 : String := "java/lang/StringBuilder"
def TJ4 : u_T := fun k => match k with
  | 0 => ("java/lang/AbstractStringBuilder", "value", "[B", false)
  | 1 => ("java/lang/AbstractStringBuilder", "coder", "B", false)
  | 2 => ("java/lang/AbstractStringBuilder", "maybeLatin1", "Z", false)
  | _ => ("java/lang/AbstractStringBuilder", "count", "I", false)
def tyJ4 : Nat → FieldType := fun k => match k with
  | 0 => .array .byte
  | 1 => .byte
  | 2 => .boolean
  | _ => .int
abbrev wsJ40 : List Cond := u_ws RJ4 TJ4 4
theorem nmJ4 : ∀ a, a < 4 → ∀ b, b < 4 → a ≠ b → (TJ4 a).2.1 ≠ (TJ4 b).2.1 := by decide +kernel
theorem tyJ4_ok : ∀ k, k < 4 → parseFieldDescriptor (TJ4 k).2.2.1 = some (tyJ4 k) := by decide +kernel
abbrev cJ4_init_da8c8 : ByteArray := prog_19_method_1_code
def yJ4_init_da8c8 : MethodName := ⟨RJ4, "<init>", "()V"⟩
abbrev cJ4_append_cf468 : ByteArray := prog_19_method_14_code
def yJ4_append_cf468 : MethodName := ⟨RJ4, "append", "(C)Ljava/lang/StringBuilder;"⟩
abbrev cJ4_append_bf812 : ByteArray := prog_19_method_15_code
def yJ4_append_bf812 : MethodName := ⟨RJ4, "append", "(I)Ljava/lang/StringBuilder;"⟩
abbrev cJ4_charAt_5068e : ByteArray := prog_19_method_88_code
def yJ4_charAt_5068e : MethodName := ⟨RJ4, "charAt", "(I)C"⟩
abbrev cJ4_setLength_d00df : ByteArray := prog_19_method_89_code
def yJ4_setLength_d00df : MethodName := ⟨RJ4, "setLength", "(I)V"⟩
abbrev cJ4_length_8abf5 : ByteArray := prog_19_method_93_code
def yJ4_length_8abf5 : MethodName := ⟨RJ4, "length", "()I"⟩
def RJ1 : String := "java/lang/StringLatin1"
def TJ1 : u_T := fun k => match k with
  | _ => ("", "", "", false)
def tyJ1 : Nat → FieldType := fun k => match k with
  | _ => .int
abbrev wsJ10 : List Cond := u_ws RJ1 TJ1 0
theorem nmJ1 : ∀ a, a < 0 → ∀ b, b < 0 → a ≠ b → (TJ1 a).2.1 ≠ (TJ1 b).2.1 := by decide +kernel
theorem tyJ1_ok : ∀ k, k < 0 → parseFieldDescriptor (TJ1 k).2.2.1 = some (tyJ1 k) := by decide +kernel
abbrev cJ1_canEncode_fc78d : ByteArray := prog_20_method_3_code
def yJ1_canEncode_fc78d : MethodName := ⟨RJ1, "canEncode", "(C)Z"⟩
abbrev cJ1_fillNull_b72d1 : ByteArray := prog_20_method_48_code
def yJ1_fillNull_b72d1 : MethodName := ⟨RJ1, "fillNull", "([BII)V"⟩
abbrev cJ1_inflate_0e8fd : ByteArray := prog_20_method_50_code
def yJ1_inflate_0e8fd : MethodName := ⟨RJ1, "inflate", "([BI[BII)V"⟩
def RJ2 : String := "java/lang/StringUTF16"
def TJ2 : u_T := fun k => match k with
  | _ => ("", "", "", false)
def tyJ2 : Nat → FieldType := fun k => match k with
  | _ => .int
abbrev wsJ20 : List Cond := u_ws RJ2 TJ2 0
theorem nmJ2 : ∀ a, a < 0 → ∀ b, b < 0 → a ≠ b → (TJ2 a).2.1 ≠ (TJ2 b).2.1 := by decide +kernel
theorem tyJ2_ok : ∀ k, k < 0 → parseFieldDescriptor (TJ2 k).2.2.1 = some (tyJ2 k) := by decide +kernel
abbrev cJ2_newBytesFor_77867 : ByteArray := prog_21_method_2_code
def yJ2_newBytesFor_77867 : MethodName := ⟨RJ2, "newBytesFor", "(I)[B"⟩
abbrev cJ2_newBytesLength_0f7a4 : ByteArray := prog_21_method_3_code
def yJ2_newBytesLength_0f7a4 : MethodName := ⟨RJ2, "newBytesLength", "(I)I"⟩
abbrev cJ2_putChar_b72d1 : ByteArray := prog_21_method_4_code
def yJ2_putChar_b72d1 : MethodName := ⟨RJ2, "putChar", "([BII)V"⟩
abbrev cJ2_getChar_3b067 : ByteArray := prog_21_method_5_code
def yJ2_getChar_3b067 : MethodName := ⟨RJ2, "getChar", "([BI)C"⟩
abbrev cJ2_length_9d52b : ByteArray := prog_21_method_6_code
def yJ2_length_9d52b : MethodName := ⟨RJ2, "length", "([B)I"⟩
abbrev cJ2_fillNull_b72d1 : ByteArray := prog_21_method_70_code
def yJ2_fillNull_b72d1 : MethodName := ⟨RJ2, "fillNull", "([BII)V"⟩
abbrev cJ2_putCharSB_b72d1 : ByteArray := prog_21_method_71_code
def yJ2_putCharSB_b72d1 : MethodName := ⟨RJ2, "putCharSB", "([BII)V"⟩
abbrev cJ2_getChars_46870 : ByteArray := prog_21_method_77_code
def yJ2_getChars_46870 : MethodName := ⟨RJ2, "getChars", "(III[B)I"⟩
abbrev cJ2_inflate_0e8fd : ByteArray := prog_21_method_86_code
def yJ2_inflate_0e8fd : MethodName := ⟨RJ2, "inflate", "([BI[BII)V"⟩
abbrev cJ2_getChars_ba4f3 : ByteArray := prog_21_method_89_code
def yJ2_getChars_ba4f3 : MethodName := ⟨RJ2, "getChars", "(II[B)I"⟩
abbrev cJ2_checkIndex_2214a : ByteArray := prog_21_method_91_code
def yJ2_checkIndex_2214a : MethodName := ⟨RJ2, "checkIndex", "(I[B)V"⟩
abbrev cJ2_checkBoundsBeginEnd_d044e : ByteArray := prog_21_method_93_code
def yJ2_checkBoundsBeginEnd_d044e : MethodName := ⟨RJ2, "checkBoundsBeginEnd", "(II[B)V"⟩
abbrev cJ2_checkBoundsOffCount_d044e : ByteArray := prog_21_method_94_code
def yJ2_checkBoundsOffCount_d044e : MethodName := ⟨RJ2, "checkBoundsOffCount", "(II[B)V"⟩
def RJ10 : String := "java/lang/System"
def TJ10 : u_T := fun k => match k with
  | _ => ("", "", "", false)
def tyJ10 : Nat → FieldType := fun k => match k with
  | _ => .int
abbrev wsJ100 : List Cond := u_ws RJ10 TJ10 0
theorem nmJ10 : ∀ a, a < 0 → ∀ b, b < 0 → a ≠ b → (TJ10 a).2.1 ≠ (TJ10 b).2.1 := by decide +kernel
theorem tyJ10_ok : ∀ k, k < 0 → parseFieldDescriptor (TJ10 k).2.2.1 = some (tyJ10 k) := by decide +kernel
def RJxfd54e : String := "java/lang/constant/Constable"
def TJxfd54e : u_T := fun k => match k with
  | _ => ("", "", "", false)
def tyJxfd54e : Nat → FieldType := fun k => match k with
  | _ => .int
abbrev wsJxfd54e0 : List Cond := u_ws RJxfd54e TJxfd54e 0
theorem nmJxfd54e : ∀ a, a < 0 → ∀ b, b < 0 → a ≠ b → (TJxfd54e a).2.1 ≠ (TJxfd54e b).2.1 := by decide +kernel
theorem tyJxfd54e_ok : ∀ k, k < 0 → parseFieldDescriptor (TJxfd54e k).2.2.1 = some (tyJxfd54e k) := by decide +kernel
def RJx3cf43 : String := "java/lang/constant/ConstantDesc"
def TJx3cf43 : u_T := fun k => match k with
  | _ => ("", "", "", false)
def tyJx3cf43 : Nat → FieldType := fun k => match k with
  | _ => .int
abbrev wsJx3cf430 : List Cond := u_ws RJx3cf43 TJx3cf43 0
theorem nmJx3cf43 : ∀ a, a < 0 → ∀ b, b < 0 → a ≠ b → (TJx3cf43 a).2.1 ≠ (TJx3cf43 b).2.1 := by decide +kernel
theorem tyJx3cf43_ok : ∀ k, k < 0 → parseFieldDescriptor (TJx3cf43 k).2.2.1 = some (tyJx3cf43 k) := by decide +kernel
def RJ7 : String := "java/util/Arrays"
def TJ7 : u_T := fun k => match k with
  | _ => ("", "", "", false)
def tyJ7 : Nat → FieldType := fun k => match k with
  | _ => .int
abbrev wsJ70 : List Cond := u_ws RJ7 TJ7 0
theorem nmJ7 : ∀ a, a < 0 → ∀ b, b < 0 → a ≠ b → (TJ7 a).2.1 ≠ (TJ7 b).2.1 := by decide +kernel
theorem tyJ7_ok : ∀ k, k < 0 → parseFieldDescriptor (TJ7 k).2.2.1 = some (tyJ7 k) := by decide +kernel
abbrev cJ7_rangeCheck_23922 : ByteArray := prog_23_method_30_code
def yJ7_rangeCheck_23922 : MethodName := ⟨RJ7, "rangeCheck", "(III)V"⟩
abbrev cJ7_fill_53178 : ByteArray := prog_23_method_103_code
def yJ7_fill_53178 : MethodName := ⟨RJ7, "fill", "([II)V"⟩
abbrev cJ7_fill_eb02e : ByteArray := prog_23_method_110_code
def yJ7_fill_eb02e : MethodName := ⟨RJ7, "fill", "([BIIB)V"⟩
abbrev cJ7_copyOf_9075b : ByteArray := prog_23_method_121_code
def yJ7_copyOf_9075b : MethodName := ⟨RJ7, "copyOf", "([BI)[B"⟩
def RJ8 : String := "jdk/internal/util/ArraysSupport"
def TJ8 : u_T := fun k => match k with
  | _ => ("", "", "", false)
def tyJ8 : Nat → FieldType := fun k => match k with
  | _ => .int
abbrev wsJ80 : List Cond := u_ws RJ8 TJ8 0
theorem nmJ8 : ∀ a, a < 0 → ∀ b, b < 0 → a ≠ b → (TJ8 a).2.1 ≠ (TJ8 b).2.1 := by decide +kernel
theorem tyJ8_ok : ∀ k, k < 0 → parseFieldDescriptor (TJ8 k).2.2.1 = some (tyJ8 k) := by decide +kernel
abbrev cJ8_newLength_cabcc : ByteArray := prog_24_method_27_code
def yJ8_newLength_cabcc : MethodName := ⟨RJ8, "newLength", "(III)I"⟩
abbrev cJ8_hugeLength_7cf53 : ByteArray := prog_24_method_28_code
def yJ8_hugeLength_7cf53 : MethodName := ⟨RJ8, "hugeLength", "(II)I"⟩
def RJ3 : String := "jdk/internal/util/Preconditions"
def TJ3 : u_T := fun k => match k with
  | _ => ("", "", "", false)
def tyJ3 : Nat → FieldType := fun k => match k with
  | _ => .int
abbrev wsJ30 : List Cond := u_ws RJ3 TJ3 0
theorem nmJ3 : ∀ a, a < 0 → ∀ b, b < 0 → a ≠ b → (TJ3 a).2.1 ≠ (TJ3 b).2.1 := by decide +kernel
theorem tyJ3_ok : ∀ k, k < 0 → parseFieldDescriptor (TJ3 k).2.2.1 = some (tyJ3 k) := by decide +kernel
abbrev cJ3_checkIndex_8e157 : ByteArray := prog_25_method_11_code
def yJ3_checkIndex_8e157 : MethodName := ⟨RJ3, "checkIndex", "(IILjava/util/function/BiFunction;)I"⟩
abbrev cJ3_checkFromToIndex_8c36e : ByteArray := prog_25_method_12_code
def yJ3_checkFromToIndex_8c36e : MethodName := ⟨RJ3, "checkFromToIndex", "(IIILjava/util/function/BiFunction;)I"⟩
abbrev cJ3_checkFromIndexSize_8c36e : ByteArray := prog_25_method_13_code
def yJ3_checkFromIndexSize_8c36e : MethodName := ⟨RJ3, "checkFromIndexSize", "(IIILjava/util/function/BiFunction;)I"⟩
def RL : String := "GroebnerFanLaw"
abbrev cL_law : ByteArray := code
def yL_law : MethodName := ⟨RL, "law", "([I)Z"⟩
abbrev vwCl : List vw_C := [(RJ4, TJ4, 4), (RX0, TX0, 4), (RX1, TX1, 8), (RX2, TX2, 2), (RX3, TX3, 4), (RX4, TX4, 3), (RX5, TX5, 4), (RX6, TX6, 1), (RX7, TX7, 5), (RX8, TX8, 3), (RX9, TX9, 12), (RX10, TX10, 46)]
end
section
theorem dX0_init_0 : decode cX0_init 0 = .ok (.aload_n 0, 1) := by decide +kernel
theorem dX0_init_1 : decode cX0_init 1 = .ok (.invokespecial 3, 3) := by decide +kernel
theorem dX0_init_4 : decode cX0_init 4 = .ok (.aload_n 0, 1) := by decide +kernel
theorem dX0_init_5 : decode cX0_init 5 = .ok (.iconst 0, 1) := by decide +kernel
theorem dX0_init_6 : decode cX0_init 6 = .ok (.putfield 9, 3) := by decide +kernel
theorem dX0_init_9 : decode cX0_init 9 = .ok (.aload_n 0, 1) := by decide +kernel
theorem dX0_init_10 : decode cX0_init 10 = .ok (.iconst 0, 1) := by decide +kernel
theorem dX0_init_11 : decode cX0_init 11 = .ok (.putfield 15, 3) := by decide +kernel
theorem dX0_init_14 : decode cX0_init 14 = .ok (.aload_n 0, 1) := by decide +kernel
theorem dX0_init_15 : decode cX0_init 15 = .ok (.bipush 9, 2) := by decide +kernel
theorem dX0_init_17 : decode cX0_init 17 = .ok (.newarray .int, 2) := by decide +kernel
theorem dX0_init_19 : decode cX0_init 19 = .ok (.putfield 18, 3) := by decide +kernel
theorem dX0_init_22 : decode cX0_init 22 = .ok (.aload_n 0, 1) := by decide +kernel
theorem dX0_init_23 : decode cX0_init 23 = .ok (.bipush 9, 2) := by decide +kernel
theorem dX0_init_25 : decode cX0_init 25 = .ok (.newarray .int, 2) := by decide +kernel
theorem dX0_init_27 : decode cX0_init 27 = .ok (.putfield 22, 3) := by decide +kernel
theorem dX0_init_30 : decode cX0_init 30 = .ok (.return_, 1) := by decide +kernel
theorem dX0_take_0 : decode cX0_take 0 = .ok (.aload_n 0, 1) := by decide +kernel
theorem dX0_take_1 : decode cX0_take 1 = .ok (.iload_n 1, 1) := by decide +kernel
theorem dX0_take_2 : decode cX0_take 2 = .ok (.putfield 9, 3) := by decide +kernel
theorem dX0_take_5 : decode cX0_take 5 = .ok (.aload_n 0, 1) := by decide +kernel
theorem dX0_take_6 : decode cX0_take 6 = .ok (.iconst 0, 1) := by decide +kernel
theorem dX0_take_7 : decode cX0_take 7 = .ok (.putfield 15, 3) := by decide +kernel
theorem dX0_take_10 : decode cX0_take 10 = .ok (.aload_n 0, 1) := by decide +kernel
theorem dX0_take_11 : decode cX0_take 11 = .ok (.iload_n 1, 1) := by decide +kernel
theorem dX0_take_12 : decode cX0_take 12 = .ok (.iconst 1, 1) := by decide +kernel
theorem dX0_take_13 : decode cX0_take 13 = .ok (.invokevirtual 25, 3) := by decide +kernel
theorem dX0_take_16 : decode cX0_take 16 = .ok (.iconst 0, 1) := by decide +kernel
theorem dX0_take_17 : decode cX0_take 17 = .ok (.istore_n 3, 1) := by decide +kernel
theorem dX0_take_18 : decode cX0_take 18 = .ok (.iload_n 3, 1) := by decide +kernel
theorem dX0_take_19 : decode cX0_take 19 = .ok (.aload_n 2, 1) := by decide +kernel
theorem dX0_take_20 : decode cX0_take 20 = .ok (.getfield 29, 3) := by decide +kernel
theorem dX0_take_23 : decode cX0_take 23 = .ok (.if_icmp .ge 42, 3) := by decide +kernel
theorem dX0_take_26 : decode cX0_take 26 = .ok (.aload_n 2, 1) := by decide +kernel
theorem dX0_take_27 : decode cX0_take 27 = .ok (.getfield 32, 3) := by decide +kernel
theorem dX0_take_30 : decode cX0_take 30 = .ok (.iload_n 3, 1) := by decide +kernel
theorem dX0_take_31 : decode cX0_take 31 = .ok (.iaload, 1) := by decide +kernel
theorem dX0_take_32 : decode cX0_take 32 = .ok (.istore 4, 2) := by decide +kernel
theorem dX0_take_34 : decode cX0_take 34 = .ok (.iload 4, 2) := by decide +kernel
theorem dX0_take_36 : decode cX0_take 36 = .ok (.ifCond .eq 23, 3) := by decide +kernel
theorem dX0_take_39 : decode cX0_take 39 = .ok (.aload_n 0, 1) := by decide +kernel
theorem dX0_take_40 : decode cX0_take 40 = .ok (.aload_n 2, 1) := by decide +kernel
theorem dX0_take_41 : decode cX0_take 41 = .ok (.getfield 35, 3) := by decide +kernel
theorem dX0_take_44 : decode cX0_take 44 = .ok (.iload_n 3, 1) := by decide +kernel
theorem dX0_take_45 : decode cX0_take 45 = .ok (.iaload, 1) := by decide +kernel
theorem dX0_take_46 : decode cX0_take 46 = .ok (.aload_n 2, 1) := by decide +kernel
theorem dX0_take_47 : decode cX0_take 47 = .ok (.getfield 36, 3) := by decide +kernel
theorem dX0_take_50 : decode cX0_take 50 = .ok (.getfield 40, 3) := by decide +kernel
theorem dX0_take_53 : decode cX0_take 53 = .ok (.iload 4, 2) := by decide +kernel
theorem dX0_take_55 : decode cX0_take 55 = .ok (.isub, 1) := by decide +kernel
theorem dX0_take_56 : decode cX0_take 56 = .ok (.invokevirtual 25, 3) := by decide +kernel
theorem dX0_take_59 : decode cX0_take 59 = .ok (.iinc 3 1, 3) := by decide +kernel
theorem dX0_take_62 : decode cX0_take 62 = .ok (.goto (-44), 3) := by decide +kernel
theorem dX0_take_65 : decode cX0_take 65 = .ok (.return_, 1) := by decide +kernel
theorem dX0_insertTerm_0 : decode cX0_insertTerm 0 = .ok (.aload_n 0, 1) := by decide +kernel
theorem dX0_insertTerm_1 : decode cX0_insertTerm 1 = .ok (.getfield 15, 3) := by decide +kernel
theorem dX0_insertTerm_4 : decode cX0_insertTerm 4 = .ok (.bipush 9, 2) := by decide +kernel
theorem dX0_insertTerm_6 : decode cX0_insertTerm 6 = .ok (.if_icmp .lt 4, 3) := by decide +kernel
theorem dX0_insertTerm_9 : decode cX0_insertTerm 9 = .ok (.return_, 1) := by decide +kernel
theorem dX0_insertTerm_10 : decode cX0_insertTerm 10 = .ok (.aload_n 0, 1) := by decide +kernel
theorem dX0_insertTerm_11 : decode cX0_insertTerm 11 = .ok (.getfield 15, 3) := by decide +kernel
theorem dX0_insertTerm_14 : decode cX0_insertTerm 14 = .ok (.istore_n 3, 1) := by decide +kernel
theorem dX0_insertTerm_15 : decode cX0_insertTerm 15 = .ok (.aload_n 0, 1) := by decide +kernel
theorem dX0_insertTerm_16 : decode cX0_insertTerm 16 = .ok (.getfield 15, 3) := by decide +kernel
theorem dX0_insertTerm_19 : decode cX0_insertTerm 19 = .ok (.iconst 1, 1) := by decide +kernel
theorem dX0_insertTerm_20 : decode cX0_insertTerm 20 = .ok (.isub, 1) := by decide +kernel
theorem dX0_insertTerm_21 : decode cX0_insertTerm 21 = .ok (.istore 4, 2) := by decide +kernel
theorem dX0_insertTerm_23 : decode cX0_insertTerm 23 = .ok (.iload 4, 2) := by decide +kernel
theorem dX0_insertTerm_25 : decode cX0_insertTerm 25 = .ok (.ifCond .lt 55, 3) := by decide +kernel
theorem dX0_insertTerm_28 : decode cX0_insertTerm 28 = .ok (.aload_n 0, 1) := by decide +kernel
theorem dX0_insertTerm_29 : decode cX0_insertTerm 29 = .ok (.getfield 18, 3) := by decide +kernel
theorem dX0_insertTerm_32 : decode cX0_insertTerm 32 = .ok (.iload 4, 2) := by decide +kernel
theorem dX0_insertTerm_34 : decode cX0_insertTerm 34 = .ok (.iaload, 1) := by decide +kernel
theorem dX0_insertTerm_35 : decode cX0_insertTerm 35 = .ok (.iload_n 1, 1) := by decide +kernel
theorem dX0_insertTerm_36 : decode cX0_insertTerm 36 = .ok (.if_icmp .ge 44, 3) := by decide +kernel
theorem dX0_insertTerm_39 : decode cX0_insertTerm 39 = .ok (.aload_n 0, 1) := by decide +kernel
theorem dX0_insertTerm_40 : decode cX0_insertTerm 40 = .ok (.getfield 18, 3) := by decide +kernel
theorem dX0_insertTerm_43 : decode cX0_insertTerm 43 = .ok (.iload 4, 2) := by decide +kernel
theorem dX0_insertTerm_45 : decode cX0_insertTerm 45 = .ok (.iconst 1, 1) := by decide +kernel
theorem dX0_insertTerm_46 : decode cX0_insertTerm 46 = .ok (.iadd, 1) := by decide +kernel
theorem dX0_insertTerm_47 : decode cX0_insertTerm 47 = .ok (.aload_n 0, 1) := by decide +kernel
theorem dX0_insertTerm_48 : decode cX0_insertTerm 48 = .ok (.getfield 18, 3) := by decide +kernel
theorem dX0_insertTerm_51 : decode cX0_insertTerm 51 = .ok (.iload 4, 2) := by decide +kernel
theorem dX0_insertTerm_53 : decode cX0_insertTerm 53 = .ok (.iaload, 1) := by decide +kernel
theorem dX0_insertTerm_54 : decode cX0_insertTerm 54 = .ok (.iastore, 1) := by decide +kernel
theorem dX0_insertTerm_55 : decode cX0_insertTerm 55 = .ok (.aload_n 0, 1) := by decide +kernel
theorem dX0_insertTerm_56 : decode cX0_insertTerm 56 = .ok (.getfield 22, 3) := by decide +kernel
theorem dX0_insertTerm_59 : decode cX0_insertTerm 59 = .ok (.iload 4, 2) := by decide +kernel
theorem dX0_insertTerm_61 : decode cX0_insertTerm 61 = .ok (.iconst 1, 1) := by decide +kernel
theorem dX0_insertTerm_62 : decode cX0_insertTerm 62 = .ok (.iadd, 1) := by decide +kernel
theorem dX0_insertTerm_63 : decode cX0_insertTerm 63 = .ok (.aload_n 0, 1) := by decide +kernel
theorem dX0_insertTerm_64 : decode cX0_insertTerm 64 = .ok (.getfield 22, 3) := by decide +kernel
theorem dX0_insertTerm_67 : decode cX0_insertTerm 67 = .ok (.iload 4, 2) := by decide +kernel
theorem dX0_insertTerm_69 : decode cX0_insertTerm 69 = .ok (.iaload, 1) := by decide +kernel
theorem dX0_insertTerm_70 : decode cX0_insertTerm 70 = .ok (.iastore, 1) := by decide +kernel
theorem dX0_insertTerm_71 : decode cX0_insertTerm 71 = .ok (.iload 4, 2) := by decide +kernel
theorem dX0_insertTerm_73 : decode cX0_insertTerm 73 = .ok (.istore_n 3, 1) := by decide +kernel
theorem dX0_insertTerm_74 : decode cX0_insertTerm 74 = .ok (.iinc 4 (-1), 3) := by decide +kernel
theorem dX0_insertTerm_77 : decode cX0_insertTerm 77 = .ok (.goto (-54), 3) := by decide +kernel
theorem dX0_insertTerm_80 : decode cX0_insertTerm 80 = .ok (.aload_n 0, 1) := by decide +kernel
theorem dX0_insertTerm_81 : decode cX0_insertTerm 81 = .ok (.getfield 18, 3) := by decide +kernel
theorem dX0_insertTerm_84 : decode cX0_insertTerm 84 = .ok (.iload_n 3, 1) := by decide +kernel
theorem dX0_insertTerm_85 : decode cX0_insertTerm 85 = .ok (.iload_n 1, 1) := by decide +kernel
theorem dX0_insertTerm_86 : decode cX0_insertTerm 86 = .ok (.iastore, 1) := by decide +kernel
theorem dX0_insertTerm_87 : decode cX0_insertTerm 87 = .ok (.aload_n 0, 1) := by decide +kernel
theorem dX0_insertTerm_88 : decode cX0_insertTerm 88 = .ok (.getfield 22, 3) := by decide +kernel
theorem dX0_insertTerm_91 : decode cX0_insertTerm 91 = .ok (.iload_n 3, 1) := by decide +kernel
theorem dX0_insertTerm_92 : decode cX0_insertTerm 92 = .ok (.iload_n 2, 1) := by decide +kernel
theorem dX0_insertTerm_93 : decode cX0_insertTerm 93 = .ok (.iastore, 1) := by decide +kernel
theorem dX0_insertTerm_94 : decode cX0_insertTerm 94 = .ok (.aload_n 0, 1) := by decide +kernel
theorem dX0_insertTerm_95 : decode cX0_insertTerm 95 = .ok (.dup, 1) := by decide +kernel
theorem dX0_insertTerm_96 : decode cX0_insertTerm 96 = .ok (.getfield 15, 3) := by decide +kernel
theorem dX0_insertTerm_99 : decode cX0_insertTerm 99 = .ok (.iconst 1, 1) := by decide +kernel
theorem dX0_insertTerm_100 : decode cX0_insertTerm 100 = .ok (.iadd, 1) := by decide +kernel
theorem dX0_insertTerm_101 : decode cX0_insertTerm 101 = .ok (.putfield 15, 3) := by decide +kernel
theorem dX0_insertTerm_104 : decode cX0_insertTerm 104 = .ok (.return_, 1) := by decide +kernel
theorem dX0_factorOf_0 : decode cX0_factorOf 0 = .ok (.iconst 0, 1) := by decide +kernel
theorem dX0_factorOf_1 : decode cX0_factorOf 1 = .ok (.istore_n 2, 1) := by decide +kernel
theorem dX0_factorOf_2 : decode cX0_factorOf 2 = .ok (.iload_n 2, 1) := by decide +kernel
theorem dX0_factorOf_3 : decode cX0_factorOf 3 = .ok (.aload_n 0, 1) := by decide +kernel
theorem dX0_factorOf_4 : decode cX0_factorOf 4 = .ok (.getfield 15, 3) := by decide +kernel
theorem dX0_factorOf_7 : decode cX0_factorOf 7 = .ok (.if_icmp .ge 26, 3) := by decide +kernel
theorem dX0_factorOf_10 : decode cX0_factorOf 10 = .ok (.aload_n 0, 1) := by decide +kernel
theorem dX0_factorOf_11 : decode cX0_factorOf 11 = .ok (.getfield 18, 3) := by decide +kernel
theorem dX0_factorOf_14 : decode cX0_factorOf 14 = .ok (.iload_n 2, 1) := by decide +kernel
theorem dX0_factorOf_15 : decode cX0_factorOf 15 = .ok (.iaload, 1) := by decide +kernel
theorem dX0_factorOf_16 : decode cX0_factorOf 16 = .ok (.iload_n 1, 1) := by decide +kernel
theorem dX0_factorOf_17 : decode cX0_factorOf 17 = .ok (.if_icmp .ne 10, 3) := by decide +kernel
theorem dX0_factorOf_20 : decode cX0_factorOf 20 = .ok (.aload_n 0, 1) := by decide +kernel
theorem dX0_factorOf_21 : decode cX0_factorOf 21 = .ok (.getfield 22, 3) := by decide +kernel
theorem dX0_factorOf_24 : decode cX0_factorOf 24 = .ok (.iload_n 2, 1) := by decide +kernel
theorem dX0_factorOf_25 : decode cX0_factorOf 25 = .ok (.iaload, 1) := by decide +kernel
theorem dX0_factorOf_26 : decode cX0_factorOf 26 = .ok (.ireturn, 1) := by decide +kernel
theorem dX0_factorOf_27 : decode cX0_factorOf 27 = .ok (.iinc 2 1, 3) := by decide +kernel
theorem dX0_factorOf_30 : decode cX0_factorOf 30 = .ok (.goto (-28), 3) := by decide +kernel
theorem dX0_factorOf_33 : decode cX0_factorOf 33 = .ok (.iconst 0, 1) := by decide +kernel
theorem dX0_factorOf_34 : decode cX0_factorOf 34 = .ok (.ireturn, 1) := by decide +kernel
theorem dX0_hasTermsOf_0 : decode cX0_hasTermsOf 0 = .ok (.aload_n 0, 1) := by decide +kernel
theorem dX0_hasTermsOf_1 : decode cX0_hasTermsOf 1 = .ok (.getfield 15, 3) := by decide +kernel
theorem dX0_hasTermsOf_4 : decode cX0_hasTermsOf 4 = .ok (.aload_n 1, 1) := by decide +kernel
theorem dX0_hasTermsOf_5 : decode cX0_hasTermsOf 5 = .ok (.getfield 15, 3) := by decide +kernel
theorem dX0_hasTermsOf_8 : decode cX0_hasTermsOf 8 = .ok (.if_icmp .eq 5, 3) := by decide +kernel
theorem dX0_hasTermsOf_11 : decode cX0_hasTermsOf 11 = .ok (.iconst 0, 1) := by decide +kernel
theorem dX0_hasTermsOf_12 : decode cX0_hasTermsOf 12 = .ok (.ireturn, 1) := by decide +kernel
theorem dX0_hasTermsOf_13 : decode cX0_hasTermsOf 13 = .ok (.iconst 0, 1) := by decide +kernel
theorem dX0_hasTermsOf_14 : decode cX0_hasTermsOf 14 = .ok (.istore_n 2, 1) := by decide +kernel
theorem dX0_hasTermsOf_15 : decode cX0_hasTermsOf 15 = .ok (.iload_n 2, 1) := by decide +kernel
theorem dX0_hasTermsOf_16 : decode cX0_hasTermsOf 16 = .ok (.aload_n 0, 1) := by decide +kernel
theorem dX0_hasTermsOf_17 : decode cX0_hasTermsOf 17 = .ok (.getfield 15, 3) := by decide +kernel
theorem dX0_hasTermsOf_20 : decode cX0_hasTermsOf 20 = .ok (.if_icmp .ge 41, 3) := by decide +kernel
theorem dX0_hasTermsOf_23 : decode cX0_hasTermsOf 23 = .ok (.aload_n 0, 1) := by decide +kernel
theorem dX0_hasTermsOf_24 : decode cX0_hasTermsOf 24 = .ok (.getfield 18, 3) := by decide +kernel
theorem dX0_hasTermsOf_27 : decode cX0_hasTermsOf 27 = .ok (.iload_n 2, 1) := by decide +kernel
theorem dX0_hasTermsOf_28 : decode cX0_hasTermsOf 28 = .ok (.iaload, 1) := by decide +kernel
theorem dX0_hasTermsOf_29 : decode cX0_hasTermsOf 29 = .ok (.aload_n 1, 1) := by decide +kernel
theorem dX0_hasTermsOf_30 : decode cX0_hasTermsOf 30 = .ok (.getfield 18, 3) := by decide +kernel
theorem dX0_hasTermsOf_33 : decode cX0_hasTermsOf 33 = .ok (.iload_n 2, 1) := by decide +kernel
theorem dX0_hasTermsOf_34 : decode cX0_hasTermsOf 34 = .ok (.iaload, 1) := by decide +kernel
theorem dX0_hasTermsOf_35 : decode cX0_hasTermsOf 35 = .ok (.if_icmp .ne 18, 3) := by decide +kernel
theorem dX0_hasTermsOf_38 : decode cX0_hasTermsOf 38 = .ok (.aload_n 0, 1) := by decide +kernel
theorem dX0_hasTermsOf_39 : decode cX0_hasTermsOf 39 = .ok (.getfield 22, 3) := by decide +kernel
theorem dX0_hasTermsOf_42 : decode cX0_hasTermsOf 42 = .ok (.iload_n 2, 1) := by decide +kernel
theorem dX0_hasTermsOf_43 : decode cX0_hasTermsOf 43 = .ok (.iaload, 1) := by decide +kernel
theorem dX0_hasTermsOf_44 : decode cX0_hasTermsOf 44 = .ok (.aload_n 1, 1) := by decide +kernel
theorem dX0_hasTermsOf_45 : decode cX0_hasTermsOf 45 = .ok (.getfield 22, 3) := by decide +kernel
theorem dX0_hasTermsOf_48 : decode cX0_hasTermsOf 48 = .ok (.iload_n 2, 1) := by decide +kernel
theorem dX0_hasTermsOf_49 : decode cX0_hasTermsOf 49 = .ok (.iaload, 1) := by decide +kernel
theorem dX0_hasTermsOf_50 : decode cX0_hasTermsOf 50 = .ok (.if_icmp .eq 5, 3) := by decide +kernel
theorem dX0_hasTermsOf_53 : decode cX0_hasTermsOf 53 = .ok (.iconst 0, 1) := by decide +kernel
theorem dX0_hasTermsOf_54 : decode cX0_hasTermsOf 54 = .ok (.ireturn, 1) := by decide +kernel
theorem dX0_hasTermsOf_55 : decode cX0_hasTermsOf 55 = .ok (.iinc 2 1, 3) := by decide +kernel
theorem dX0_hasTermsOf_58 : decode cX0_hasTermsOf 58 = .ok (.goto (-43), 3) := by decide +kernel
theorem dX0_hasTermsOf_61 : decode cX0_hasTermsOf 61 = .ok (.iconst 1, 1) := by decide +kernel
theorem dX0_hasTermsOf_62 : decode cX0_hasTermsOf 62 = .ok (.ireturn, 1) := by decide +kernel
theorem dX0_degree_0 : decode cX0_degree 0 = .ok (.iconst 0, 1) := by decide +kernel
theorem dX0_degree_1 : decode cX0_degree 1 = .ok (.istore_n 1, 1) := by decide +kernel
theorem dX0_degree_2 : decode cX0_degree 2 = .ok (.iconst 0, 1) := by decide +kernel
theorem dX0_degree_3 : decode cX0_degree 3 = .ok (.istore_n 2, 1) := by decide +kernel
theorem dX0_degree_4 : decode cX0_degree 4 = .ok (.iload_n 2, 1) := by decide +kernel
theorem dX0_degree_5 : decode cX0_degree 5 = .ok (.aload_n 0, 1) := by decide +kernel
theorem dX0_degree_6 : decode cX0_degree 6 = .ok (.getfield 15, 3) := by decide +kernel
theorem dX0_degree_9 : decode cX0_degree 9 = .ok (.if_icmp .ge 33, 3) := by decide +kernel
theorem dX0_degree_12 : decode cX0_degree 12 = .ok (.iload_n 1, 1) := by decide +kernel
theorem dX0_degree_13 : decode cX0_degree 13 = .ok (.aload_n 0, 1) := by decide +kernel
theorem dX0_degree_14 : decode cX0_degree 14 = .ok (.getfield 18, 3) := by decide +kernel
theorem dX0_degree_17 : decode cX0_degree 17 = .ok (.iload_n 2, 1) := by decide +kernel
theorem dX0_degree_18 : decode cX0_degree 18 = .ok (.iaload, 1) := by decide +kernel
theorem dX0_degree_19 : decode cX0_degree 19 = .ok (.bipush 9, 2) := by decide +kernel
theorem dX0_degree_21 : decode cX0_degree 21 = .ok (.idiv, 1) := by decide +kernel
theorem dX0_degree_22 : decode cX0_degree 22 = .ok (.aload_n 0, 1) := by decide +kernel
theorem dX0_degree_23 : decode cX0_degree 23 = .ok (.getfield 18, 3) := by decide +kernel
theorem dX0_degree_26 : decode cX0_degree 26 = .ok (.iload_n 2, 1) := by decide +kernel
theorem dX0_degree_27 : decode cX0_degree 27 = .ok (.iaload, 1) := by decide +kernel
theorem dX0_degree_28 : decode cX0_degree 28 = .ok (.bipush 9, 2) := by decide +kernel
theorem dX0_degree_30 : decode cX0_degree 30 = .ok (.irem, 1) := by decide +kernel
theorem dX0_degree_31 : decode cX0_degree 31 = .ok (.iadd, 1) := by decide +kernel
theorem dX0_degree_32 : decode cX0_degree 32 = .ok (.invokestatic 45, 3) := by decide +kernel
theorem dX0_degree_35 : decode cX0_degree 35 = .ok (.istore_n 1, 1) := by decide +kernel
theorem dX0_degree_36 : decode cX0_degree 36 = .ok (.iinc 2 1, 3) := by decide +kernel
theorem dX0_degree_39 : decode cX0_degree 39 = .ok (.goto (-35), 3) := by decide +kernel
theorem dX0_degree_42 : decode cX0_degree 42 = .ok (.iload_n 1, 1) := by decide +kernel
theorem dX0_degree_43 : decode cX0_degree 43 = .ok (.ireturn, 1) := by decide +kernel
theorem dX1_init_0 : decode cX1_init 0 = .ok (.aload_n 0, 1) := by decide +kernel
theorem dX1_init_1 : decode cX1_init 1 = .ok (.invokespecial 3, 3) := by decide +kernel
theorem dX1_init_4 : decode cX1_init 4 = .ok (.aload_n 0, 1) := by decide +kernel
theorem dX1_init_5 : decode cX1_init 5 = .ok (.bipush 8, 2) := by decide +kernel
theorem dX1_init_7 : decode cX1_init 7 = .ok (.bipush 8, 2) := by decide +kernel
theorem dX1_init_9 : decode cX1_init 9 = .ok (.multianewarray 9 2, 4) := by decide +kernel
theorem dX1_init_13 : decode cX1_init 13 = .ok (.putfield 11, 3) := by decide +kernel
theorem dX1_init_16 : decode cX1_init 16 = .ok (.aload_n 0, 1) := by decide +kernel
theorem dX1_init_17 : decode cX1_init 17 = .ok (.bipush 8, 2) := by decide +kernel
theorem dX1_init_19 : decode cX1_init 19 = .ok (.bipush 8, 2) := by decide +kernel
theorem dX1_init_21 : decode cX1_init 21 = .ok (.multianewarray 9 2, 4) := by decide +kernel
theorem dX1_init_25 : decode cX1_init 25 = .ok (.putfield 16, 3) := by decide +kernel
theorem dX1_init_28 : decode cX1_init 28 = .ok (.aload_n 0, 1) := by decide +kernel
theorem dX1_init_29 : decode cX1_init 29 = .ok (.bipush 8, 2) := by decide +kernel
theorem dX1_init_31 : decode cX1_init 31 = .ok (.newarray .int, 2) := by decide +kernel
theorem dX1_init_33 : decode cX1_init 33 = .ok (.putfield 19, 3) := by decide +kernel
theorem dX1_init_36 : decode cX1_init 36 = .ok (.aload_n 0, 1) := by decide +kernel
theorem dX1_init_37 : decode cX1_init 37 = .ok (.iconst 0, 1) := by decide +kernel
theorem dX1_init_38 : decode cX1_init 38 = .ok (.putfield 23, 3) := by decide +kernel
theorem dX1_init_41 : decode cX1_init 41 = .ok (.aload_n 0, 1) := by decide +kernel
theorem dX1_init_42 : decode cX1_init 42 = .ok (.bipush 8, 2) := by decide +kernel
theorem dX1_init_44 : decode cX1_init 44 = .ok (.newarray .int, 2) := by decide +kernel
theorem dX1_init_46 : decode cX1_init 46 = .ok (.putfield 27, 3) := by decide +kernel
theorem dX1_init_49 : decode cX1_init 49 = .ok (.aload_n 0, 1) := by decide +kernel
theorem dX1_init_50 : decode cX1_init 50 = .ok (.bipush 8, 2) := by decide +kernel
theorem dX1_init_52 : decode cX1_init 52 = .ok (.newarray .int, 2) := by decide +kernel
theorem dX1_init_54 : decode cX1_init 54 = .ok (.putfield 30, 3) := by decide +kernel
theorem dX1_init_57 : decode cX1_init 57 = .ok (.aload_n 0, 1) := by decide +kernel
theorem dX1_init_58 : decode cX1_init 58 = .ok (.bipush 8, 2) := by decide +kernel
theorem dX1_init_60 : decode cX1_init 60 = .ok (.newarray .int, 2) := by decide +kernel
theorem dX1_init_62 : decode cX1_init 62 = .ok (.putfield 33, 3) := by decide +kernel
theorem dX1_init_65 : decode cX1_init 65 = .ok (.aload_n 0, 1) := by decide +kernel
theorem dX1_init_66 : decode cX1_init 66 = .ok (.aload_n 1, 1) := by decide +kernel
theorem dX1_init_67 : decode cX1_init 67 = .ok (.putfield 36, 3) := by decide +kernel
theorem dX1_init_70 : decode cX1_init 70 = .ok (.return_, 1) := by decide +kernel
theorem dX1_restart_0 : decode cX1_restart 0 = .ok (.aload_n 0, 1) := by decide +kernel
theorem dX1_restart_1 : decode cX1_restart 1 = .ok (.iconst 0, 1) := by decide +kernel
theorem dX1_restart_2 : decode cX1_restart 2 = .ok (.putfield 23, 3) := by decide +kernel
theorem dX1_restart_5 : decode cX1_restart 5 = .ok (.return_, 1) := by decide +kernel
theorem dX1_keepStandardMonomials_0 : decode cX1_keepStandardMonomials 0 = .ok (.aload_n 0, 1) := by decide +kernel
theorem dX1_keepStandardMonomials_1 : decode cX1_keepStandardMonomials 1 = .ok (.invokevirtual 40, 3) := by decide +kernel
theorem dX1_keepStandardMonomials_4 : decode cX1_keepStandardMonomials 4 = .ok (.iconst 0, 1) := by decide +kernel
theorem dX1_keepStandardMonomials_5 : decode cX1_keepStandardMonomials 5 = .ok (.istore_n 2, 1) := by decide +kernel
theorem dX1_keepStandardMonomials_6 : decode cX1_keepStandardMonomials 6 = .ok (.iload_n 2, 1) := by decide +kernel
theorem dX1_keepStandardMonomials_7 : decode cX1_keepStandardMonomials 7 = .ok (.bipush 9, 2) := by decide +kernel
theorem dX1_keepStandardMonomials_9 : decode cX1_keepStandardMonomials 9 = .ok (.if_icmp .ge 38, 3) := by decide +kernel
theorem dX1_keepStandardMonomials_12 : decode cX1_keepStandardMonomials 12 = .ok (.iconst 0, 1) := by decide +kernel
theorem dX1_keepStandardMonomials_13 : decode cX1_keepStandardMonomials 13 = .ok (.istore_n 3, 1) := by decide +kernel
theorem dX1_keepStandardMonomials_14 : decode cX1_keepStandardMonomials 14 = .ok (.iload_n 3, 1) := by decide +kernel
theorem dX1_keepStandardMonomials_15 : decode cX1_keepStandardMonomials 15 = .ok (.aload_n 1, 1) := by decide +kernel
theorem dX1_keepStandardMonomials_16 : decode cX1_keepStandardMonomials 16 = .ok (.getfield 43, 3) := by decide +kernel
theorem dX1_keepStandardMonomials_19 : decode cX1_keepStandardMonomials 19 = .ok (.iload_n 2, 1) := by decide +kernel
theorem dX1_keepStandardMonomials_20 : decode cX1_keepStandardMonomials 20 = .ok (.iaload, 1) := by decide +kernel
theorem dX1_keepStandardMonomials_21 : decode cX1_keepStandardMonomials 21 = .ok (.if_icmp .ge 20, 3) := by decide +kernel
theorem dX1_keepStandardMonomials_24 : decode cX1_keepStandardMonomials 24 = .ok (.aload_n 0, 1) := by decide +kernel
theorem dX1_keepStandardMonomials_25 : decode cX1_keepStandardMonomials 25 = .ok (.bipush 9, 2) := by decide +kernel
theorem dX1_keepStandardMonomials_27 : decode cX1_keepStandardMonomials 27 = .ok (.iload_n 2, 1) := by decide +kernel
theorem dX1_keepStandardMonomials_28 : decode cX1_keepStandardMonomials 28 = .ok (.imul, 1) := by decide +kernel
theorem dX1_keepStandardMonomials_29 : decode cX1_keepStandardMonomials 29 = .ok (.iload_n 3, 1) := by decide +kernel
theorem dX1_keepStandardMonomials_30 : decode cX1_keepStandardMonomials 30 = .ok (.iadd, 1) := by decide +kernel
theorem dX1_keepStandardMonomials_31 : decode cX1_keepStandardMonomials 31 = .ok (.invokevirtual 48, 3) := by decide +kernel
theorem dX1_keepStandardMonomials_34 : decode cX1_keepStandardMonomials 34 = .ok (.pop, 1) := by decide +kernel
theorem dX1_keepStandardMonomials_35 : decode cX1_keepStandardMonomials 35 = .ok (.iinc 3 1, 3) := by decide +kernel
theorem dX1_keepStandardMonomials_38 : decode cX1_keepStandardMonomials 38 = .ok (.goto (-24), 3) := by decide +kernel
theorem dX1_keepStandardMonomials_41 : decode cX1_keepStandardMonomials 41 = .ok (.iinc 2 1, 3) := by decide +kernel
theorem dX1_keepStandardMonomials_44 : decode cX1_keepStandardMonomials 44 = .ok (.goto (-38), 3) := by decide +kernel
theorem dX1_keepStandardMonomials_47 : decode cX1_keepStandardMonomials 47 = .ok (.return_, 1) := by decide +kernel
theorem dX1_keepIfIndependent_0 : decode cX1_keepIfIndependent 0 = .ok (.iconst 0, 1) := by decide +kernel
theorem dX1_keepIfIndependent_1 : decode cX1_keepIfIndependent 1 = .ok (.istore_n 2, 1) := by decide +kernel
theorem dX1_keepIfIndependent_2 : decode cX1_keepIfIndependent 2 = .ok (.iload_n 2, 1) := by decide +kernel
theorem dX1_keepIfIndependent_3 : decode cX1_keepIfIndependent 3 = .ok (.aload_n 0, 1) := by decide +kernel
theorem dX1_keepIfIndependent_4 : decode cX1_keepIfIndependent 4 = .ok (.getfield 36, 3) := by decide +kernel
theorem dX1_keepIfIndependent_7 : decode cX1_keepIfIndependent 7 = .ok (.getfield 52, 3) := by decide +kernel
theorem dX1_keepIfIndependent_10 : decode cX1_keepIfIndependent 10 = .ok (.if_icmp .ge 24, 3) := by decide +kernel
theorem dX1_keepIfIndependent_13 : decode cX1_keepIfIndependent 13 = .ok (.aload_n 0, 1) := by decide +kernel
theorem dX1_keepIfIndependent_14 : decode cX1_keepIfIndependent 14 = .ok (.getfield 30, 3) := by decide +kernel
theorem dX1_keepIfIndependent_17 : decode cX1_keepIfIndependent 17 = .ok (.iload_n 2, 1) := by decide +kernel
theorem dX1_keepIfIndependent_18 : decode cX1_keepIfIndependent 18 = .ok (.aload_n 0, 1) := by decide +kernel
theorem dX1_keepIfIndependent_19 : decode cX1_keepIfIndependent 19 = .ok (.getfield 36, 3) := by decide +kernel
theorem dX1_keepIfIndependent_22 : decode cX1_keepIfIndependent 22 = .ok (.iload_n 1, 1) := by decide +kernel
theorem dX1_keepIfIndependent_23 : decode cX1_keepIfIndependent 23 = .ok (.iload_n 2, 1) := by decide +kernel
theorem dX1_keepIfIndependent_24 : decode cX1_keepIfIndependent 24 = .ok (.invokevirtual 55, 3) := by decide +kernel
theorem dX1_keepIfIndependent_27 : decode cX1_keepIfIndependent 27 = .ok (.iastore, 1) := by decide +kernel
theorem dX1_keepIfIndependent_28 : decode cX1_keepIfIndependent 28 = .ok (.iinc 2 1, 3) := by decide +kernel
theorem dX1_keepIfIndependent_31 : decode cX1_keepIfIndependent 31 = .ok (.goto (-29), 3) := by decide +kernel
theorem dX1_keepIfIndependent_34 : decode cX1_keepIfIndependent 34 = .ok (.aload_n 0, 1) := by decide +kernel
theorem dX1_keepIfIndependent_35 : decode cX1_keepIfIndependent 35 = .ok (.invokevirtual 59, 3) := by decide +kernel
theorem dX1_keepIfIndependent_38 : decode cX1_keepIfIndependent 38 = .ok (.aload_n 0, 1) := by decide +kernel
theorem dX1_keepIfIndependent_39 : decode cX1_keepIfIndependent 39 = .ok (.invokevirtual 62, 3) := by decide +kernel
theorem dX1_keepIfIndependent_42 : decode cX1_keepIfIndependent 42 = .ok (.istore_n 2, 1) := by decide +kernel
theorem dX1_keepIfIndependent_43 : decode cX1_keepIfIndependent 43 = .ok (.iload_n 2, 1) := by decide +kernel
theorem dX1_keepIfIndependent_44 : decode cX1_keepIfIndependent 44 = .ok (.iconst (-1), 1) := by decide +kernel
theorem dX1_keepIfIndependent_45 : decode cX1_keepIfIndependent 45 = .ok (.if_icmp .eq 12, 3) := by decide +kernel
theorem dX1_keepIfIndependent_48 : decode cX1_keepIfIndependent 48 = .ok (.aload_n 0, 1) := by decide +kernel
theorem dX1_keepIfIndependent_49 : decode cX1_keepIfIndependent 49 = .ok (.getfield 23, 3) := by decide +kernel
theorem dX1_keepIfIndependent_52 : decode cX1_keepIfIndependent 52 = .ok (.bipush 8, 2) := by decide +kernel
theorem dX1_keepIfIndependent_54 : decode cX1_keepIfIndependent 54 = .ok (.if_icmp .lt 5, 3) := by decide +kernel
theorem dX1_keepIfIndependent_57 : decode cX1_keepIfIndependent 57 = .ok (.iconst 0, 1) := by decide +kernel
theorem dX1_keepIfIndependent_58 : decode cX1_keepIfIndependent 58 = .ok (.ireturn, 1) := by decide +kernel
theorem dX1_keepIfIndependent_59 : decode cX1_keepIfIndependent 59 = .ok (.aload_n 0, 1) := by decide +kernel
theorem dX1_keepIfIndependent_60 : decode cX1_keepIfIndependent 60 = .ok (.iload_n 1, 1) := by decide +kernel
theorem dX1_keepIfIndependent_61 : decode cX1_keepIfIndependent 61 = .ok (.iload_n 2, 1) := by decide +kernel
theorem dX1_keepIfIndependent_62 : decode cX1_keepIfIndependent 62 = .ok (.invokevirtual 66, 3) := by decide +kernel
theorem dX1_keepIfIndependent_65 : decode cX1_keepIfIndependent 65 = .ok (.iconst 1, 1) := by decide +kernel
theorem dX1_keepIfIndependent_66 : decode cX1_keepIfIndependent 66 = .ok (.ireturn, 1) := by decide +kernel
theorem dX1_reduceValues_0 : decode cX1_reduceValues 0 = .ok (.aload_n 0, 1) := by decide +kernel
theorem dX1_reduceValues_1 : decode cX1_reduceValues 1 = .ok (.getfield 33, 3) := by decide +kernel
theorem dX1_reduceValues_4 : decode cX1_reduceValues 4 = .ok (.iconst 0, 1) := by decide +kernel
theorem dX1_reduceValues_5 : decode cX1_reduceValues 5 = .ok (.invokestatic 70, 3) := by decide +kernel
theorem dX1_reduceValues_8 : decode cX1_reduceValues 8 = .ok (.iconst 0, 1) := by decide +kernel
theorem dX1_reduceValues_9 : decode cX1_reduceValues 9 = .ok (.istore_n 1, 1) := by decide +kernel
theorem dX1_reduceValues_10 : decode cX1_reduceValues 10 = .ok (.iload_n 1, 1) := by decide +kernel
theorem dX1_reduceValues_11 : decode cX1_reduceValues 11 = .ok (.aload_n 0, 1) := by decide +kernel
theorem dX1_reduceValues_12 : decode cX1_reduceValues 12 = .ok (.getfield 23, 3) := by decide +kernel
theorem dX1_reduceValues_15 : decode cX1_reduceValues 15 = .ok (.if_icmp .ge 59, 3) := by decide +kernel
theorem dX1_reduceValues_18 : decode cX1_reduceValues 18 = .ok (.aload_n 0, 1) := by decide +kernel
theorem dX1_reduceValues_19 : decode cX1_reduceValues 19 = .ok (.getfield 30, 3) := by decide +kernel
theorem dX1_reduceValues_22 : decode cX1_reduceValues 22 = .ok (.aload_n 0, 1) := by decide +kernel
theorem dX1_reduceValues_23 : decode cX1_reduceValues 23 = .ok (.getfield 19, 3) := by decide +kernel
theorem dX1_reduceValues_26 : decode cX1_reduceValues 26 = .ok (.iload_n 1, 1) := by decide +kernel
theorem dX1_reduceValues_27 : decode cX1_reduceValues 27 = .ok (.iaload, 1) := by decide +kernel
theorem dX1_reduceValues_28 : decode cX1_reduceValues 28 = .ok (.iaload, 1) := by decide +kernel
theorem dX1_reduceValues_29 : decode cX1_reduceValues 29 = .ok (.istore_n 2, 1) := by decide +kernel
theorem dX1_reduceValues_30 : decode cX1_reduceValues 30 = .ok (.aload_n 0, 1) := by decide +kernel
theorem dX1_reduceValues_31 : decode cX1_reduceValues 31 = .ok (.aload_n 0, 1) := by decide +kernel
theorem dX1_reduceValues_32 : decode cX1_reduceValues 32 = .ok (.getfield 30, 3) := by decide +kernel
theorem dX1_reduceValues_35 : decode cX1_reduceValues 35 = .ok (.aload_n 0, 1) := by decide +kernel
theorem dX1_reduceValues_36 : decode cX1_reduceValues 36 = .ok (.getfield 11, 3) := by decide +kernel
theorem dX1_reduceValues_39 : decode cX1_reduceValues 39 = .ok (.iload_n 1, 1) := by decide +kernel
theorem dX1_reduceValues_40 : decode cX1_reduceValues 40 = .ok (.aaload, 1) := by decide +kernel
theorem dX1_reduceValues_41 : decode cX1_reduceValues 41 = .ok (.aload_n 0, 1) := by decide +kernel
theorem dX1_reduceValues_42 : decode cX1_reduceValues 42 = .ok (.getfield 36, 3) := by decide +kernel
theorem dX1_reduceValues_45 : decode cX1_reduceValues 45 = .ok (.getfield 76, 3) := by decide +kernel
theorem dX1_reduceValues_48 : decode cX1_reduceValues 48 = .ok (.iload_n 2, 1) := by decide +kernel
theorem dX1_reduceValues_49 : decode cX1_reduceValues 49 = .ok (.isub, 1) := by decide +kernel
theorem dX1_reduceValues_50 : decode cX1_reduceValues 50 = .ok (.invokevirtual 79, 3) := by decide +kernel
theorem dX1_reduceValues_53 : decode cX1_reduceValues 53 = .ok (.aload_n 0, 1) := by decide +kernel
theorem dX1_reduceValues_54 : decode cX1_reduceValues 54 = .ok (.aload_n 0, 1) := by decide +kernel
theorem dX1_reduceValues_55 : decode cX1_reduceValues 55 = .ok (.getfield 33, 3) := by decide +kernel
theorem dX1_reduceValues_58 : decode cX1_reduceValues 58 = .ok (.aload_n 0, 1) := by decide +kernel
theorem dX1_reduceValues_59 : decode cX1_reduceValues 59 = .ok (.getfield 16, 3) := by decide +kernel
theorem dX1_reduceValues_62 : decode cX1_reduceValues 62 = .ok (.iload_n 1, 1) := by decide +kernel
theorem dX1_reduceValues_63 : decode cX1_reduceValues 63 = .ok (.aaload, 1) := by decide +kernel
theorem dX1_reduceValues_64 : decode cX1_reduceValues 64 = .ok (.iload_n 2, 1) := by decide +kernel
theorem dX1_reduceValues_65 : decode cX1_reduceValues 65 = .ok (.invokevirtual 79, 3) := by decide +kernel
theorem dX1_reduceValues_68 : decode cX1_reduceValues 68 = .ok (.iinc 1 1, 3) := by decide +kernel
theorem dX1_reduceValues_71 : decode cX1_reduceValues 71 = .ok (.goto (-61), 3) := by decide +kernel
theorem dX1_reduceValues_74 : decode cX1_reduceValues 74 = .ok (.return_, 1) := by decide +kernel
theorem dX1_addMultiple_0 : decode cX1_addMultiple 0 = .ok (.iconst 0, 1) := by decide +kernel
theorem dX1_addMultiple_1 : decode cX1_addMultiple 1 = .ok (.istore 4, 2) := by decide +kernel
theorem dX1_addMultiple_3 : decode cX1_addMultiple 3 = .ok (.iload 4, 2) := by decide +kernel
theorem dX1_addMultiple_5 : decode cX1_addMultiple 5 = .ok (.aload_n 0, 1) := by decide +kernel
theorem dX1_addMultiple_6 : decode cX1_addMultiple 6 = .ok (.getfield 36, 3) := by decide +kernel
theorem dX1_addMultiple_9 : decode cX1_addMultiple 9 = .ok (.getfield 52, 3) := by decide +kernel
theorem dX1_addMultiple_12 : decode cX1_addMultiple 12 = .ok (.if_icmp .ge 32, 3) := by decide +kernel
theorem dX1_addMultiple_15 : decode cX1_addMultiple 15 = .ok (.aload_n 1, 1) := by decide +kernel
theorem dX1_addMultiple_16 : decode cX1_addMultiple 16 = .ok (.iload 4, 2) := by decide +kernel
theorem dX1_addMultiple_18 : decode cX1_addMultiple 18 = .ok (.aload_n 1, 1) := by decide +kernel
theorem dX1_addMultiple_19 : decode cX1_addMultiple 19 = .ok (.iload 4, 2) := by decide +kernel
theorem dX1_addMultiple_21 : decode cX1_addMultiple 21 = .ok (.iaload, 1) := by decide +kernel
theorem dX1_addMultiple_22 : decode cX1_addMultiple 22 = .ok (.iload_n 3, 1) := by decide +kernel
theorem dX1_addMultiple_23 : decode cX1_addMultiple 23 = .ok (.aload_n 2, 1) := by decide +kernel
theorem dX1_addMultiple_24 : decode cX1_addMultiple 24 = .ok (.iload 4, 2) := by decide +kernel
theorem dX1_addMultiple_26 : decode cX1_addMultiple 26 = .ok (.iaload, 1) := by decide +kernel
theorem dX1_addMultiple_27 : decode cX1_addMultiple 27 = .ok (.imul, 1) := by decide +kernel
theorem dX1_addMultiple_28 : decode cX1_addMultiple 28 = .ok (.iadd, 1) := by decide +kernel
theorem dX1_addMultiple_29 : decode cX1_addMultiple 29 = .ok (.aload_n 0, 1) := by decide +kernel
theorem dX1_addMultiple_30 : decode cX1_addMultiple 30 = .ok (.getfield 36, 3) := by decide +kernel
theorem dX1_addMultiple_33 : decode cX1_addMultiple 33 = .ok (.getfield 76, 3) := by decide +kernel
theorem dX1_addMultiple_36 : decode cX1_addMultiple 36 = .ok (.irem, 1) := by decide +kernel
theorem dX1_addMultiple_37 : decode cX1_addMultiple 37 = .ok (.iastore, 1) := by decide +kernel
theorem dX1_addMultiple_38 : decode cX1_addMultiple 38 = .ok (.iinc 4 1, 3) := by decide +kernel
theorem dX1_addMultiple_41 : decode cX1_addMultiple 41 = .ok (.goto (-38), 3) := by decide +kernel
theorem dX1_addMultiple_44 : decode cX1_addMultiple 44 = .ok (.return_, 1) := by decide +kernel
theorem dX1_firstNonzeroValue_0 : decode cX1_firstNonzeroValue 0 = .ok (.iconst 0, 1) := by decide +kernel
theorem dX1_firstNonzeroValue_1 : decode cX1_firstNonzeroValue 1 = .ok (.istore_n 1, 1) := by decide +kernel
theorem dX1_firstNonzeroValue_2 : decode cX1_firstNonzeroValue 2 = .ok (.iload_n 1, 1) := by decide +kernel
theorem dX1_firstNonzeroValue_3 : decode cX1_firstNonzeroValue 3 = .ok (.aload_n 0, 1) := by decide +kernel
theorem dX1_firstNonzeroValue_4 : decode cX1_firstNonzeroValue 4 = .ok (.getfield 36, 3) := by decide +kernel
theorem dX1_firstNonzeroValue_7 : decode cX1_firstNonzeroValue 7 = .ok (.getfield 52, 3) := by decide +kernel
theorem dX1_firstNonzeroValue_10 : decode cX1_firstNonzeroValue 10 = .ok (.if_icmp .ge 20, 3) := by decide +kernel
theorem dX1_firstNonzeroValue_13 : decode cX1_firstNonzeroValue 13 = .ok (.aload_n 0, 1) := by decide +kernel
theorem dX1_firstNonzeroValue_14 : decode cX1_firstNonzeroValue 14 = .ok (.getfield 30, 3) := by decide +kernel
theorem dX1_firstNonzeroValue_17 : decode cX1_firstNonzeroValue 17 = .ok (.iload_n 1, 1) := by decide +kernel
theorem dX1_firstNonzeroValue_18 : decode cX1_firstNonzeroValue 18 = .ok (.iaload, 1) := by decide +kernel
theorem dX1_firstNonzeroValue_19 : decode cX1_firstNonzeroValue 19 = .ok (.ifCond .eq 5, 3) := by decide +kernel
theorem dX1_firstNonzeroValue_22 : decode cX1_firstNonzeroValue 22 = .ok (.iload_n 1, 1) := by decide +kernel
theorem dX1_firstNonzeroValue_23 : decode cX1_firstNonzeroValue 23 = .ok (.ireturn, 1) := by decide +kernel
theorem dX1_firstNonzeroValue_24 : decode cX1_firstNonzeroValue 24 = .ok (.iinc 1 1, 3) := by decide +kernel
theorem dX1_firstNonzeroValue_27 : decode cX1_firstNonzeroValue 27 = .ok (.goto (-25), 3) := by decide +kernel
theorem dX1_firstNonzeroValue_30 : decode cX1_firstNonzeroValue 30 = .ok (.iconst (-1), 1) := by decide +kernel
theorem dX1_firstNonzeroValue_31 : decode cX1_firstNonzeroValue 31 = .ok (.ireturn, 1) := by decide +kernel
theorem dX1_keepValues_0 : decode cX1_keepValues 0 = .ok (.aload_n 0, 1) := by decide +kernel
theorem dX1_keepValues_1 : decode cX1_keepValues 1 = .ok (.getfield 36, 3) := by decide +kernel
theorem dX1_keepValues_4 : decode cX1_keepValues 4 = .ok (.aload_n 0, 1) := by decide +kernel
theorem dX1_keepValues_5 : decode cX1_keepValues 5 = .ok (.getfield 30, 3) := by decide +kernel
theorem dX1_keepValues_8 : decode cX1_keepValues 8 = .ok (.iload_n 2, 1) := by decide +kernel
theorem dX1_keepValues_9 : decode cX1_keepValues 9 = .ok (.iaload, 1) := by decide +kernel
theorem dX1_keepValues_10 : decode cX1_keepValues 10 = .ok (.invokevirtual 83, 3) := by decide +kernel
theorem dX1_keepValues_13 : decode cX1_keepValues 13 = .ok (.istore_n 3, 1) := by decide +kernel
theorem dX1_keepValues_14 : decode cX1_keepValues 14 = .ok (.aload_n 0, 1) := by decide +kernel
theorem dX1_keepValues_15 : decode cX1_keepValues 15 = .ok (.getfield 36, 3) := by decide +kernel
theorem dX1_keepValues_18 : decode cX1_keepValues 18 = .ok (.getfield 76, 3) := by decide +kernel
theorem dX1_keepValues_21 : decode cX1_keepValues 21 = .ok (.iload_n 3, 1) := by decide +kernel
theorem dX1_keepValues_22 : decode cX1_keepValues 22 = .ok (.isub, 1) := by decide +kernel
theorem dX1_keepValues_23 : decode cX1_keepValues 23 = .ok (.istore 4, 2) := by decide +kernel
theorem dX1_keepValues_25 : decode cX1_keepValues 25 = .ok (.iconst 0, 1) := by decide +kernel
theorem dX1_keepValues_26 : decode cX1_keepValues 26 = .ok (.istore 5, 2) := by decide +kernel
theorem dX1_keepValues_28 : decode cX1_keepValues 28 = .ok (.iload 5, 2) := by decide +kernel
theorem dX1_keepValues_30 : decode cX1_keepValues 30 = .ok (.aload_n 0, 1) := by decide +kernel
theorem dX1_keepValues_31 : decode cX1_keepValues 31 = .ok (.getfield 36, 3) := by decide +kernel
theorem dX1_keepValues_34 : decode cX1_keepValues 34 = .ok (.getfield 52, 3) := by decide +kernel
theorem dX1_keepValues_37 : decode cX1_keepValues 37 = .ok (.if_icmp .ge 68, 3) := by decide +kernel
theorem dX1_keepValues_40 : decode cX1_keepValues 40 = .ok (.aload_n 0, 1) := by decide +kernel
theorem dX1_keepValues_41 : decode cX1_keepValues 41 = .ok (.getfield 11, 3) := by decide +kernel
theorem dX1_keepValues_44 : decode cX1_keepValues 44 = .ok (.aload_n 0, 1) := by decide +kernel
theorem dX1_keepValues_45 : decode cX1_keepValues 45 = .ok (.getfield 23, 3) := by decide +kernel
theorem dX1_keepValues_48 : decode cX1_keepValues 48 = .ok (.aaload, 1) := by decide +kernel
theorem dX1_keepValues_49 : decode cX1_keepValues 49 = .ok (.iload 5, 2) := by decide +kernel
theorem dX1_keepValues_51 : decode cX1_keepValues 51 = .ok (.iload_n 3, 1) := by decide +kernel
theorem dX1_keepValues_52 : decode cX1_keepValues 52 = .ok (.aload_n 0, 1) := by decide +kernel
theorem dX1_keepValues_53 : decode cX1_keepValues 53 = .ok (.getfield 30, 3) := by decide +kernel
theorem dX1_keepValues_56 : decode cX1_keepValues 56 = .ok (.iload 5, 2) := by decide +kernel
theorem dX1_keepValues_58 : decode cX1_keepValues 58 = .ok (.iaload, 1) := by decide +kernel
theorem dX1_keepValues_59 : decode cX1_keepValues 59 = .ok (.imul, 1) := by decide +kernel
theorem dX1_keepValues_60 : decode cX1_keepValues 60 = .ok (.aload_n 0, 1) := by decide +kernel
theorem dX1_keepValues_61 : decode cX1_keepValues 61 = .ok (.getfield 36, 3) := by decide +kernel
theorem dX1_keepValues_64 : decode cX1_keepValues 64 = .ok (.getfield 76, 3) := by decide +kernel
theorem dX1_keepValues_67 : decode cX1_keepValues 67 = .ok (.irem, 1) := by decide +kernel
theorem dX1_keepValues_68 : decode cX1_keepValues 68 = .ok (.iastore, 1) := by decide +kernel
theorem dX1_keepValues_69 : decode cX1_keepValues 69 = .ok (.aload_n 0, 1) := by decide +kernel
theorem dX1_keepValues_70 : decode cX1_keepValues 70 = .ok (.getfield 16, 3) := by decide +kernel
theorem dX1_keepValues_73 : decode cX1_keepValues 73 = .ok (.aload_n 0, 1) := by decide +kernel
theorem dX1_keepValues_74 : decode cX1_keepValues 74 = .ok (.getfield 23, 3) := by decide +kernel
theorem dX1_keepValues_77 : decode cX1_keepValues 77 = .ok (.aaload, 1) := by decide +kernel
theorem dX1_keepValues_78 : decode cX1_keepValues 78 = .ok (.iload 5, 2) := by decide +kernel
theorem dX1_keepValues_80 : decode cX1_keepValues 80 = .ok (.iload 4, 2) := by decide +kernel
theorem dX1_keepValues_82 : decode cX1_keepValues 82 = .ok (.aload_n 0, 1) := by decide +kernel
theorem dX1_keepValues_83 : decode cX1_keepValues 83 = .ok (.getfield 33, 3) := by decide +kernel
theorem dX1_keepValues_86 : decode cX1_keepValues 86 = .ok (.iload 5, 2) := by decide +kernel
theorem dX1_keepValues_88 : decode cX1_keepValues 88 = .ok (.iaload, 1) := by decide +kernel
theorem dX1_keepValues_89 : decode cX1_keepValues 89 = .ok (.imul, 1) := by decide +kernel
theorem dX1_keepValues_90 : decode cX1_keepValues 90 = .ok (.aload_n 0, 1) := by decide +kernel
theorem dX1_keepValues_91 : decode cX1_keepValues 91 = .ok (.getfield 36, 3) := by decide +kernel
theorem dX1_keepValues_94 : decode cX1_keepValues 94 = .ok (.getfield 76, 3) := by decide +kernel
theorem dX1_keepValues_97 : decode cX1_keepValues 97 = .ok (.irem, 1) := by decide +kernel
theorem dX1_keepValues_98 : decode cX1_keepValues 98 = .ok (.iastore, 1) := by decide +kernel
theorem dX1_keepValues_99 : decode cX1_keepValues 99 = .ok (.iinc 5 1, 3) := by decide +kernel
theorem dX1_keepValues_102 : decode cX1_keepValues 102 = .ok (.goto (-74), 3) := by decide +kernel
theorem dX1_keepValues_105 : decode cX1_keepValues 105 = .ok (.aload_n 0, 1) := by decide +kernel
theorem dX1_keepValues_106 : decode cX1_keepValues 106 = .ok (.getfield 16, 3) := by decide +kernel
theorem dX1_keepValues_109 : decode cX1_keepValues 109 = .ok (.aload_n 0, 1) := by decide +kernel
theorem dX1_keepValues_110 : decode cX1_keepValues 110 = .ok (.getfield 23, 3) := by decide +kernel
theorem dX1_keepValues_113 : decode cX1_keepValues 113 = .ok (.aaload, 1) := by decide +kernel
theorem dX1_keepValues_114 : decode cX1_keepValues 114 = .ok (.aload_n 0, 1) := by decide +kernel
theorem dX1_keepValues_115 : decode cX1_keepValues 115 = .ok (.getfield 23, 3) := by decide +kernel
theorem dX1_keepValues_118 : decode cX1_keepValues 118 = .ok (.iload_n 3, 1) := by decide +kernel
theorem dX1_keepValues_119 : decode cX1_keepValues 119 = .ok (.iastore, 1) := by decide +kernel
theorem dX1_keepValues_120 : decode cX1_keepValues 120 = .ok (.aload_n 0, 1) := by decide +kernel
theorem dX1_keepValues_121 : decode cX1_keepValues 121 = .ok (.getfield 19, 3) := by decide +kernel
theorem dX1_keepValues_124 : decode cX1_keepValues 124 = .ok (.aload_n 0, 1) := by decide +kernel
theorem dX1_keepValues_125 : decode cX1_keepValues 125 = .ok (.getfield 23, 3) := by decide +kernel
theorem dX1_keepValues_128 : decode cX1_keepValues 128 = .ok (.iload_n 2, 1) := by decide +kernel
theorem dX1_keepValues_129 : decode cX1_keepValues 129 = .ok (.iastore, 1) := by decide +kernel
theorem dX1_keepValues_130 : decode cX1_keepValues 130 = .ok (.aload_n 0, 1) := by decide +kernel
theorem dX1_keepValues_131 : decode cX1_keepValues 131 = .ok (.getfield 27, 3) := by decide +kernel
theorem dX1_keepValues_134 : decode cX1_keepValues 134 = .ok (.aload_n 0, 1) := by decide +kernel
theorem dX1_keepValues_135 : decode cX1_keepValues 135 = .ok (.getfield 23, 3) := by decide +kernel
theorem dX1_keepValues_138 : decode cX1_keepValues 138 = .ok (.iload_n 1, 1) := by decide +kernel
theorem dX1_keepValues_139 : decode cX1_keepValues 139 = .ok (.iastore, 1) := by decide +kernel
theorem dX1_keepValues_140 : decode cX1_keepValues 140 = .ok (.aload_n 0, 1) := by decide +kernel
theorem dX1_keepValues_141 : decode cX1_keepValues 141 = .ok (.dup, 1) := by decide +kernel
theorem dX1_keepValues_142 : decode cX1_keepValues 142 = .ok (.getfield 23, 3) := by decide +kernel
theorem dX1_keepValues_145 : decode cX1_keepValues 145 = .ok (.iconst 1, 1) := by decide +kernel
theorem dX1_keepValues_146 : decode cX1_keepValues 146 = .ok (.iadd, 1) := by decide +kernel
theorem dX1_keepValues_147 : decode cX1_keepValues 147 = .ok (.putfield 23, 3) := by decide +kernel
theorem dX1_keepValues_150 : decode cX1_keepValues 150 = .ok (.return_, 1) := by decide +kernel
theorem dX2_init_0 : decode cX2_init 0 = .ok (.aload_n 0, 1) := by decide +kernel
theorem dX2_init_1 : decode cX2_init 1 = .ok (.invokespecial 3, 3) := by decide +kernel
theorem dX2_init_4 : decode cX2_init 4 = .ok (.aload_n 0, 1) := by decide +kernel
theorem dX2_init_5 : decode cX2_init 5 = .ok (.iconst 0, 1) := by decide +kernel
theorem dX2_init_6 : decode cX2_init 6 = .ok (.putfield 9, 3) := by decide +kernel
theorem dX2_init_9 : decode cX2_init 9 = .ok (.aload_n 0, 1) := by decide +kernel
theorem dX2_init_10 : decode cX2_init 10 = .ok (.bipush 44, 2) := by decide +kernel
theorem dX2_init_12 : decode cX2_init 12 = .ok (.anewarray 15, 3) := by decide +kernel
theorem dX2_init_15 : decode cX2_init 15 = .ok (.putfield 17, 3) := by decide +kernel
theorem dX2_init_18 : decode cX2_init 18 = .ok (.return_, 1) := by decide +kernel
theorem dX2_forget_0 : decode cX2_forget 0 = .ok (.aload_n 0, 1) := by decide +kernel
theorem dX2_forget_1 : decode cX2_forget 1 = .ok (.iconst 0, 1) := by decide +kernel
theorem dX2_forget_2 : decode cX2_forget 2 = .ok (.putfield 9, 3) := by decide +kernel
theorem dX2_forget_5 : decode cX2_forget 5 = .ok (.return_, 1) := by decide +kernel
theorem dX2_find_0 : decode cX2_find 0 = .ok (.iload_n 1, 1) := by decide +kernel
theorem dX2_find_1 : decode cX2_find 1 = .ok (.ifCond .lt 20, 3) := by decide +kernel
theorem dX2_find_4 : decode cX2_find 4 = .ok (.iload_n 1, 1) := by decide +kernel
theorem dX2_find_5 : decode cX2_find 5 = .ok (.aload_n 0, 1) := by decide +kernel
theorem dX2_find_6 : decode cX2_find 6 = .ok (.getfield 9, 3) := by decide +kernel
theorem dX2_find_9 : decode cX2_find 9 = .ok (.if_icmp .ge 12, 3) := by decide +kernel
theorem dX2_find_12 : decode cX2_find 12 = .ok (.aload_n 0, 1) := by decide +kernel
theorem dX2_find_13 : decode cX2_find 13 = .ok (.getfield 17, 3) := by decide +kernel
theorem dX2_find_16 : decode cX2_find 16 = .ok (.iload_n 1, 1) := by decide +kernel
theorem dX2_find_17 : decode cX2_find 17 = .ok (.aaload, 1) := by decide +kernel
theorem dX2_find_18 : decode cX2_find 18 = .ok (.goto 4, 3) := by decide +kernel
theorem dX2_find_21 : decode cX2_find 21 = .ok (.aconst_null, 1) := by decide +kernel
theorem dX2_find_22 : decode cX2_find 22 = .ok (.areturn, 1) := by decide +kernel
theorem dX2_build_0 : decode cX2_build 0 = .ok (.aload_n 1, 1) := by decide +kernel
theorem dX2_build_1 : decode cX2_build 1 = .ok (.iconst 1, 1) := by decide +kernel
theorem dX2_build_2 : decode cX2_build 2 = .ok (.iconst 0, 1) := by decide +kernel
theorem dX2_build_3 : decode cX2_build 3 = .ok (.iconst 1, 1) := by decide +kernel
theorem dX2_build_4 : decode cX2_build 4 = .ok (.invokevirtual 21, 3) := by decide +kernel
theorem dX2_build_7 : decode cX2_build 7 = .ok (.iconst 0, 1) := by decide +kernel
theorem dX2_build_8 : decode cX2_build 8 = .ok (.istore_n 3, 1) := by decide +kernel
theorem dX2_build_9 : decode cX2_build 9 = .ok (.iload_n 3, 1) := by decide +kernel
theorem dX2_build_10 : decode cX2_build 10 = .ok (.bipush 44, 2) := by decide +kernel
theorem dX2_build_12 : decode cX2_build 12 = .ok (.if_icmp .ge 79, 3) := by decide +kernel
theorem dX2_build_15 : decode cX2_build 15 = .ok (.aload_n 0, 1) := by decide +kernel
theorem dX2_build_16 : decode cX2_build 16 = .ok (.getfield 17, 3) := by decide +kernel
theorem dX2_build_19 : decode cX2_build 19 = .ok (.iload_n 3, 1) := by decide +kernel
theorem dX2_build_20 : decode cX2_build 20 = .ok (.aaload, 1) := by decide +kernel
theorem dX2_build_21 : decode cX2_build 21 = .ok (.ifnonnull 16, 3) := by decide +kernel
theorem dX2_build_24 : decode cX2_build 24 = .ok (.aload_n 0, 1) := by decide +kernel
theorem dX2_build_25 : decode cX2_build 25 = .ok (.getfield 17, 3) := by decide +kernel
theorem dX2_build_28 : decode cX2_build 28 = .ok (.iload_n 3, 1) := by decide +kernel
theorem dX2_build_29 : decode cX2_build 29 = .ok (.new 15, 3) := by decide +kernel
theorem dX2_build_32 : decode cX2_build 32 = .ok (.dup, 1) := by decide +kernel
theorem dX2_build_33 : decode cX2_build 33 = .ok (.invokespecial 27, 3) := by decide +kernel
theorem dX2_build_36 : decode cX2_build 36 = .ok (.aastore, 1) := by decide +kernel
theorem dX2_build_37 : decode cX2_build 37 = .ok (.aload_n 0, 1) := by decide +kernel
theorem dX2_build_38 : decode cX2_build 38 = .ok (.getfield 17, 3) := by decide +kernel
theorem dX2_build_41 : decode cX2_build 41 = .ok (.iload_n 3, 1) := by decide +kernel
theorem dX2_build_42 : decode cX2_build 42 = .ok (.aaload, 1) := by decide +kernel
theorem dX2_build_43 : decode cX2_build 43 = .ok (.astore 4, 2) := by decide +kernel
theorem dX2_build_45 : decode cX2_build 45 = .ok (.aload 4, 2) := by decide +kernel
theorem dX2_build_47 : decode cX2_build 47 = .ok (.aload_n 1, 1) := by decide +kernel
theorem dX2_build_48 : decode cX2_build 48 = .ok (.aload_n 2, 1) := by decide +kernel
theorem dX2_build_49 : decode cX2_build 49 = .ok (.invokevirtual 28, 3) := by decide +kernel
theorem dX2_build_52 : decode cX2_build 52 = .ok (.aload_n 0, 1) := by decide +kernel
theorem dX2_build_53 : decode cX2_build 53 = .ok (.iload_n 3, 1) := by decide +kernel
theorem dX2_build_54 : decode cX2_build 54 = .ok (.iconst 1, 1) := by decide +kernel
theorem dX2_build_55 : decode cX2_build 55 = .ok (.iadd, 1) := by decide +kernel
theorem dX2_build_56 : decode cX2_build 56 = .ok (.putfield 9, 3) := by decide +kernel
theorem dX2_build_59 : decode cX2_build 59 = .ok (.aload 4, 2) := by decide +kernel
theorem dX2_build_61 : decode cX2_build 61 = .ok (.invokevirtual 32, 3) := by decide +kernel
theorem dX2_build_64 : decode cX2_build 64 = .ok (.ifCond .ne 6, 3) := by decide +kernel
theorem dX2_build_67 : decode cX2_build 67 = .ok (.goto 24, 3) := by decide +kernel
theorem dX2_build_70 : decode cX2_build 70 = .ok (.aload_n 1, 1) := by decide +kernel
theorem dX2_build_71 : decode cX2_build 71 = .ok (.aload 4, 2) := by decide +kernel
theorem dX2_build_73 : decode cX2_build 73 = .ok (.getfield 36, 3) := by decide +kernel
theorem dX2_build_76 : decode cX2_build 76 = .ok (.aload 4, 2) := by decide +kernel
theorem dX2_build_78 : decode cX2_build 78 = .ok (.getfield 39, 3) := by decide +kernel
theorem dX2_build_81 : decode cX2_build 81 = .ok (.iconst 1, 1) := by decide +kernel
theorem dX2_build_82 : decode cX2_build 82 = .ok (.invokevirtual 21, 3) := by decide +kernel
theorem dX2_build_85 : decode cX2_build 85 = .ok (.iinc 3 1, 3) := by decide +kernel
theorem dX2_build_88 : decode cX2_build 88 = .ok (.goto (-79), 3) := by decide +kernel
theorem dX2_build_91 : decode cX2_build 91 = .ok (.return_, 1) := by decide +kernel
theorem dX2_firstWithin_0 : decode cX2_firstWithin 0 = .ok (.iconst 0, 1) := by decide +kernel
theorem dX2_firstWithin_1 : decode cX2_firstWithin 1 = .ok (.istore_n 3, 1) := by decide +kernel
theorem dX2_firstWithin_2 : decode cX2_firstWithin 2 = .ok (.iload_n 3, 1) := by decide +kernel
theorem dX2_firstWithin_3 : decode cX2_firstWithin 3 = .ok (.aload_n 0, 1) := by decide +kernel
theorem dX2_firstWithin_4 : decode cX2_firstWithin 4 = .ok (.getfield 9, 3) := by decide +kernel
theorem dX2_firstWithin_7 : decode cX2_firstWithin 7 = .ok (.if_icmp .ge 25, 3) := by decide +kernel
theorem dX2_firstWithin_10 : decode cX2_firstWithin 10 = .ok (.aload_n 0, 1) := by decide +kernel
theorem dX2_firstWithin_11 : decode cX2_firstWithin 11 = .ok (.getfield 17, 3) := by decide +kernel
theorem dX2_firstWithin_14 : decode cX2_firstWithin 14 = .ok (.iload_n 3, 1) := by decide +kernel
theorem dX2_firstWithin_15 : decode cX2_firstWithin 15 = .ok (.aaload, 1) := by decide +kernel
theorem dX2_firstWithin_16 : decode cX2_firstWithin 16 = .ok (.iload_n 1, 1) := by decide +kernel
theorem dX2_firstWithin_17 : decode cX2_firstWithin 17 = .ok (.iload_n 2, 1) := by decide +kernel
theorem dX2_firstWithin_18 : decode cX2_firstWithin 18 = .ok (.invokevirtual 42, 3) := by decide +kernel
theorem dX2_firstWithin_21 : decode cX2_firstWithin 21 = .ok (.ifCond .ne 5, 3) := by decide +kernel
theorem dX2_firstWithin_24 : decode cX2_firstWithin 24 = .ok (.iload_n 3, 1) := by decide +kernel
theorem dX2_firstWithin_25 : decode cX2_firstWithin 25 = .ok (.ireturn, 1) := by decide +kernel
theorem dX2_firstWithin_26 : decode cX2_firstWithin 26 = .ok (.iinc 3 1, 3) := by decide +kernel
theorem dX2_firstWithin_29 : decode cX2_firstWithin 29 = .ok (.goto (-27), 3) := by decide +kernel
theorem dX2_firstWithin_32 : decode cX2_firstWithin 32 = .ok (.iconst (-1), 1) := by decide +kernel
theorem dX2_firstWithin_33 : decode cX2_firstWithin 33 = .ok (.ireturn, 1) := by decide +kernel
theorem dX2_countDistinctPolynomials_0 : decode cX2_countDistinctPolynomials 0 = .ok (.iconst 0, 1) := by decide +kernel
theorem dX2_countDistinctPolynomials_1 : decode cX2_countDistinctPolynomials 1 = .ok (.istore_n 1, 1) := by decide +kernel
theorem dX2_countDistinctPolynomials_2 : decode cX2_countDistinctPolynomials 2 = .ok (.iconst 0, 1) := by decide +kernel
theorem dX2_countDistinctPolynomials_3 : decode cX2_countDistinctPolynomials 3 = .ok (.istore_n 2, 1) := by decide +kernel
theorem dX2_countDistinctPolynomials_4 : decode cX2_countDistinctPolynomials 4 = .ok (.iload_n 2, 1) := by decide +kernel
theorem dX2_countDistinctPolynomials_5 : decode cX2_countDistinctPolynomials 5 = .ok (.aload_n 0, 1) := by decide +kernel
theorem dX2_countDistinctPolynomials_6 : decode cX2_countDistinctPolynomials 6 = .ok (.getfield 9, 3) := by decide +kernel
theorem dX2_countDistinctPolynomials_9 : decode cX2_countDistinctPolynomials 9 = .ok (.if_icmp .ge 52, 3) := by decide +kernel
theorem dX2_countDistinctPolynomials_12 : decode cX2_countDistinctPolynomials 12 = .ok (.aload_n 0, 1) := by decide +kernel
theorem dX2_countDistinctPolynomials_13 : decode cX2_countDistinctPolynomials 13 = .ok (.getfield 17, 3) := by decide +kernel
theorem dX2_countDistinctPolynomials_16 : decode cX2_countDistinctPolynomials 16 = .ok (.iload_n 2, 1) := by decide +kernel
theorem dX2_countDistinctPolynomials_17 : decode cX2_countDistinctPolynomials 17 = .ok (.aaload, 1) := by decide +kernel
theorem dX2_countDistinctPolynomials_18 : decode cX2_countDistinctPolynomials 18 = .ok (.astore_n 3, 1) := by decide +kernel
theorem dX2_countDistinctPolynomials_19 : decode cX2_countDistinctPolynomials 19 = .ok (.iconst 0, 1) := by decide +kernel
theorem dX2_countDistinctPolynomials_20 : decode cX2_countDistinctPolynomials 20 = .ok (.istore 4, 2) := by decide +kernel
theorem dX2_countDistinctPolynomials_22 : decode cX2_countDistinctPolynomials 22 = .ok (.iload 4, 2) := by decide +kernel
theorem dX2_countDistinctPolynomials_24 : decode cX2_countDistinctPolynomials 24 = .ok (.aload_n 3, 1) := by decide +kernel
theorem dX2_countDistinctPolynomials_25 : decode cX2_countDistinctPolynomials 25 = .ok (.getfield 46, 3) := by decide +kernel
theorem dX2_countDistinctPolynomials_28 : decode cX2_countDistinctPolynomials 28 = .ok (.if_icmp .ge 27, 3) := by decide +kernel
theorem dX2_countDistinctPolynomials_31 : decode cX2_countDistinctPolynomials 31 = .ok (.aload_n 0, 1) := by decide +kernel
theorem dX2_countDistinctPolynomials_32 : decode cX2_countDistinctPolynomials 32 = .ok (.iload_n 2, 1) := by decide +kernel
theorem dX2_countDistinctPolynomials_33 : decode cX2_countDistinctPolynomials 33 = .ok (.aload_n 3, 1) := by decide +kernel
theorem dX2_countDistinctPolynomials_34 : decode cX2_countDistinctPolynomials 34 = .ok (.getfield 47, 3) := by decide +kernel
theorem dX2_countDistinctPolynomials_37 : decode cX2_countDistinctPolynomials 37 = .ok (.iload 4, 2) := by decide +kernel
theorem dX2_countDistinctPolynomials_39 : decode cX2_countDistinctPolynomials 39 = .ok (.aaload, 1) := by decide +kernel
theorem dX2_countDistinctPolynomials_40 : decode cX2_countDistinctPolynomials 40 = .ok (.invokevirtual 51, 3) := by decide +kernel
theorem dX2_countDistinctPolynomials_43 : decode cX2_countDistinctPolynomials 43 = .ok (.ifCond .ne 6, 3) := by decide +kernel
theorem dX2_countDistinctPolynomials_46 : decode cX2_countDistinctPolynomials 46 = .ok (.iinc 1 1, 3) := by decide +kernel
theorem dX2_countDistinctPolynomials_49 : decode cX2_countDistinctPolynomials 49 = .ok (.iinc 4 1, 3) := by decide +kernel
theorem dX2_countDistinctPolynomials_52 : decode cX2_countDistinctPolynomials 52 = .ok (.goto (-30), 3) := by decide +kernel
theorem dX2_countDistinctPolynomials_55 : decode cX2_countDistinctPolynomials 55 = .ok (.iinc 2 1, 3) := by decide +kernel
theorem dX2_countDistinctPolynomials_58 : decode cX2_countDistinctPolynomials 58 = .ok (.goto (-54), 3) := by decide +kernel
theorem dX2_countDistinctPolynomials_61 : decode cX2_countDistinctPolynomials 61 = .ok (.iload_n 1, 1) := by decide +kernel
theorem dX2_countDistinctPolynomials_62 : decode cX2_countDistinctPolynomials 62 = .ok (.ireturn, 1) := by decide +kernel
theorem dX2_isBefore_0 : decode cX2_isBefore 0 = .ok (.iconst 0, 1) := by decide +kernel
theorem dX2_isBefore_1 : decode cX2_isBefore 1 = .ok (.istore_n 3, 1) := by decide +kernel
theorem dX2_isBefore_2 : decode cX2_isBefore 2 = .ok (.iload_n 3, 1) := by decide +kernel
theorem dX2_isBefore_3 : decode cX2_isBefore 3 = .ok (.iload_n 1, 1) := by decide +kernel
theorem dX2_isBefore_4 : decode cX2_isBefore 4 = .ok (.if_icmp .ge 24, 3) := by decide +kernel
theorem dX2_isBefore_7 : decode cX2_isBefore 7 = .ok (.aload_n 0, 1) := by decide +kernel
theorem dX2_isBefore_8 : decode cX2_isBefore 8 = .ok (.getfield 17, 3) := by decide +kernel
theorem dX2_isBefore_11 : decode cX2_isBefore 11 = .ok (.iload_n 3, 1) := by decide +kernel
theorem dX2_isBefore_12 : decode cX2_isBefore 12 = .ok (.aaload, 1) := by decide +kernel
theorem dX2_isBefore_13 : decode cX2_isBefore 13 = .ok (.aload_n 2, 1) := by decide +kernel
theorem dX2_isBefore_14 : decode cX2_isBefore 14 = .ok (.invokevirtual 55, 3) := by decide +kernel
theorem dX2_isBefore_17 : decode cX2_isBefore 17 = .ok (.ifCond .eq 5, 3) := by decide +kernel
theorem dX2_isBefore_20 : decode cX2_isBefore 20 = .ok (.iconst 1, 1) := by decide +kernel
theorem dX2_isBefore_21 : decode cX2_isBefore 21 = .ok (.ireturn, 1) := by decide +kernel
theorem dX2_isBefore_22 : decode cX2_isBefore 22 = .ok (.iinc 3 1, 3) := by decide +kernel
theorem dX2_isBefore_25 : decode cX2_isBefore 25 = .ok (.goto (-23), 3) := by decide +kernel
theorem dX2_isBefore_28 : decode cX2_isBefore 28 = .ok (.iconst 0, 1) := by decide +kernel
theorem dX2_isBefore_29 : decode cX2_isBefore 29 = .ok (.ireturn, 1) := by decide +kernel
theorem dX2_greatestDegree_0 : decode cX2_greatestDegree 0 = .ok (.iconst 0, 1) := by decide +kernel
theorem dX2_greatestDegree_1 : decode cX2_greatestDegree 1 = .ok (.istore_n 1, 1) := by decide +kernel
theorem dX2_greatestDegree_2 : decode cX2_greatestDegree 2 = .ok (.iconst 0, 1) := by decide +kernel
theorem dX2_greatestDegree_3 : decode cX2_greatestDegree 3 = .ok (.istore_n 2, 1) := by decide +kernel
theorem dX2_greatestDegree_4 : decode cX2_greatestDegree 4 = .ok (.iload_n 2, 1) := by decide +kernel
theorem dX2_greatestDegree_5 : decode cX2_greatestDegree 5 = .ok (.aload_n 0, 1) := by decide +kernel
theorem dX2_greatestDegree_6 : decode cX2_greatestDegree 6 = .ok (.getfield 9, 3) := by decide +kernel
theorem dX2_greatestDegree_9 : decode cX2_greatestDegree 9 = .ok (.if_icmp .ge 49, 3) := by decide +kernel
theorem dX2_greatestDegree_12 : decode cX2_greatestDegree 12 = .ok (.aload_n 0, 1) := by decide +kernel
theorem dX2_greatestDegree_13 : decode cX2_greatestDegree 13 = .ok (.getfield 17, 3) := by decide +kernel
theorem dX2_greatestDegree_16 : decode cX2_greatestDegree 16 = .ok (.iload_n 2, 1) := by decide +kernel
theorem dX2_greatestDegree_17 : decode cX2_greatestDegree 17 = .ok (.aaload, 1) := by decide +kernel
theorem dX2_greatestDegree_18 : decode cX2_greatestDegree 18 = .ok (.astore_n 3, 1) := by decide +kernel
theorem dX2_greatestDegree_19 : decode cX2_greatestDegree 19 = .ok (.iconst 0, 1) := by decide +kernel
theorem dX2_greatestDegree_20 : decode cX2_greatestDegree 20 = .ok (.istore 4, 2) := by decide +kernel
theorem dX2_greatestDegree_22 : decode cX2_greatestDegree 22 = .ok (.iload 4, 2) := by decide +kernel
theorem dX2_greatestDegree_24 : decode cX2_greatestDegree 24 = .ok (.aload_n 3, 1) := by decide +kernel
theorem dX2_greatestDegree_25 : decode cX2_greatestDegree 25 = .ok (.getfield 46, 3) := by decide +kernel
theorem dX2_greatestDegree_28 : decode cX2_greatestDegree 28 = .ok (.if_icmp .ge 24, 3) := by decide +kernel
theorem dX2_greatestDegree_31 : decode cX2_greatestDegree 31 = .ok (.iload_n 1, 1) := by decide +kernel
theorem dX2_greatestDegree_32 : decode cX2_greatestDegree 32 = .ok (.aload_n 3, 1) := by decide +kernel
theorem dX2_greatestDegree_33 : decode cX2_greatestDegree 33 = .ok (.getfield 47, 3) := by decide +kernel
theorem dX2_greatestDegree_36 : decode cX2_greatestDegree 36 = .ok (.iload 4, 2) := by decide +kernel
theorem dX2_greatestDegree_38 : decode cX2_greatestDegree 38 = .ok (.aaload, 1) := by decide +kernel
theorem dX2_greatestDegree_39 : decode cX2_greatestDegree 39 = .ok (.invokevirtual 59, 3) := by decide +kernel
theorem dX2_greatestDegree_42 : decode cX2_greatestDegree 42 = .ok (.invokestatic 65, 3) := by decide +kernel
theorem dX2_greatestDegree_45 : decode cX2_greatestDegree 45 = .ok (.istore_n 1, 1) := by decide +kernel
theorem dX2_greatestDegree_46 : decode cX2_greatestDegree 46 = .ok (.iinc 4 1, 3) := by decide +kernel
theorem dX2_greatestDegree_49 : decode cX2_greatestDegree 49 = .ok (.goto (-27), 3) := by decide +kernel
theorem dX2_greatestDegree_52 : decode cX2_greatestDegree 52 = .ok (.iinc 2 1, 3) := by decide +kernel
theorem dX2_greatestDegree_55 : decode cX2_greatestDegree 55 = .ok (.goto (-51), 3) := by decide +kernel
theorem dX2_greatestDegree_58 : decode cX2_greatestDegree 58 = .ok (.iload_n 1, 1) := by decide +kernel
theorem dX2_greatestDegree_59 : decode cX2_greatestDegree 59 = .ok (.ireturn, 1) := by decide +kernel
theorem dX2_firstMirrorOf_0 : decode cX2_firstMirrorOf 0 = .ok (.iconst 0, 1) := by decide +kernel
theorem dX2_firstMirrorOf_1 : decode cX2_firstMirrorOf 1 = .ok (.istore_n 2, 1) := by decide +kernel
theorem dX2_firstMirrorOf_2 : decode cX2_firstMirrorOf 2 = .ok (.iload_n 2, 1) := by decide +kernel
theorem dX2_firstMirrorOf_3 : decode cX2_firstMirrorOf 3 = .ok (.aload_n 0, 1) := by decide +kernel
theorem dX2_firstMirrorOf_4 : decode cX2_firstMirrorOf 4 = .ok (.getfield 9, 3) := by decide +kernel
theorem dX2_firstMirrorOf_7 : decode cX2_firstMirrorOf 7 = .ok (.if_icmp .ge 24, 3) := by decide +kernel
theorem dX2_firstMirrorOf_10 : decode cX2_firstMirrorOf 10 = .ok (.aload_n 0, 1) := by decide +kernel
theorem dX2_firstMirrorOf_11 : decode cX2_firstMirrorOf 11 = .ok (.getfield 17, 3) := by decide +kernel
theorem dX2_firstMirrorOf_14 : decode cX2_firstMirrorOf 14 = .ok (.iload_n 2, 1) := by decide +kernel
theorem dX2_firstMirrorOf_15 : decode cX2_firstMirrorOf 15 = .ok (.aaload, 1) := by decide +kernel
theorem dX2_firstMirrorOf_16 : decode cX2_firstMirrorOf 16 = .ok (.aload_n 1, 1) := by decide +kernel
theorem dX2_firstMirrorOf_17 : decode cX2_firstMirrorOf 17 = .ok (.invokevirtual 71, 3) := by decide +kernel
theorem dX2_firstMirrorOf_20 : decode cX2_firstMirrorOf 20 = .ok (.ifCond .eq 5, 3) := by decide +kernel
theorem dX2_firstMirrorOf_23 : decode cX2_firstMirrorOf 23 = .ok (.iload_n 2, 1) := by decide +kernel
theorem dX2_firstMirrorOf_24 : decode cX2_firstMirrorOf 24 = .ok (.ireturn, 1) := by decide +kernel
theorem dX2_firstMirrorOf_25 : decode cX2_firstMirrorOf 25 = .ok (.iinc 2 1, 3) := by decide +kernel
theorem dX2_firstMirrorOf_28 : decode cX2_firstMirrorOf 28 = .ok (.goto (-26), 3) := by decide +kernel
theorem dX2_firstMirrorOf_31 : decode cX2_firstMirrorOf 31 = .ok (.iconst (-1), 1) := by decide +kernel
theorem dX2_firstMirrorOf_32 : decode cX2_firstMirrorOf 32 = .ok (.ireturn, 1) := by decide +kernel
theorem dX2_firstFlattest_0 : decode cX2_firstFlattest 0 = .ok (.iconst 0, 1) := by decide +kernel
theorem dX2_firstFlattest_1 : decode cX2_firstFlattest 1 = .ok (.istore_n 1, 1) := by decide +kernel
theorem dX2_firstFlattest_2 : decode cX2_firstFlattest 2 = .ok (.iconst 1, 1) := by decide +kernel
theorem dX2_firstFlattest_3 : decode cX2_firstFlattest 3 = .ok (.istore_n 2, 1) := by decide +kernel
theorem dX2_firstFlattest_4 : decode cX2_firstFlattest 4 = .ok (.iload_n 2, 1) := by decide +kernel
theorem dX2_firstFlattest_5 : decode cX2_firstFlattest 5 = .ok (.aload_n 0, 1) := by decide +kernel
theorem dX2_firstFlattest_6 : decode cX2_firstFlattest 6 = .ok (.getfield 9, 3) := by decide +kernel
theorem dX2_firstFlattest_9 : decode cX2_firstFlattest 9 = .ok (.if_icmp .ge 32, 3) := by decide +kernel
theorem dX2_firstFlattest_12 : decode cX2_firstFlattest 12 = .ok (.aload_n 0, 1) := by decide +kernel
theorem dX2_firstFlattest_13 : decode cX2_firstFlattest 13 = .ok (.getfield 17, 3) := by decide +kernel
theorem dX2_firstFlattest_16 : decode cX2_firstFlattest 16 = .ok (.iload_n 2, 1) := by decide +kernel
theorem dX2_firstFlattest_17 : decode cX2_firstFlattest 17 = .ok (.aaload, 1) := by decide +kernel
theorem dX2_firstFlattest_18 : decode cX2_firstFlattest 18 = .ok (.invokevirtual 75, 3) := by decide +kernel
theorem dX2_firstFlattest_21 : decode cX2_firstFlattest 21 = .ok (.aload_n 0, 1) := by decide +kernel
theorem dX2_firstFlattest_22 : decode cX2_firstFlattest 22 = .ok (.getfield 17, 3) := by decide +kernel
theorem dX2_firstFlattest_25 : decode cX2_firstFlattest 25 = .ok (.iload_n 1, 1) := by decide +kernel
theorem dX2_firstFlattest_26 : decode cX2_firstFlattest 26 = .ok (.aaload, 1) := by decide +kernel
theorem dX2_firstFlattest_27 : decode cX2_firstFlattest 27 = .ok (.invokevirtual 75, 3) := by decide +kernel
theorem dX2_firstFlattest_30 : decode cX2_firstFlattest 30 = .ok (.if_icmp .ge 5, 3) := by decide +kernel
theorem dX2_firstFlattest_33 : decode cX2_firstFlattest 33 = .ok (.iload_n 2, 1) := by decide +kernel
theorem dX2_firstFlattest_34 : decode cX2_firstFlattest 34 = .ok (.istore_n 1, 1) := by decide +kernel
theorem dX2_firstFlattest_35 : decode cX2_firstFlattest 35 = .ok (.iinc 2 1, 3) := by decide +kernel
theorem dX2_firstFlattest_38 : decode cX2_firstFlattest 38 = .ok (.goto (-34), 3) := by decide +kernel
theorem dX2_firstFlattest_41 : decode cX2_firstFlattest 41 = .ok (.iload_n 1, 1) := by decide +kernel
theorem dX2_firstFlattest_42 : decode cX2_firstFlattest 42 = .ok (.ireturn, 1) := by decide +kernel
theorem dX3_init_0 : decode cX3_init 0 = .ok (.aload_n 0, 1) := by decide +kernel
theorem dX3_init_1 : decode cX3_init 1 = .ok (.invokespecial 3, 3) := by decide +kernel
theorem dX3_init_4 : decode cX3_init 4 = .ok (.aload_n 0, 1) := by decide +kernel
theorem dX3_init_5 : decode cX3_init 5 = .ok (.iconst 0, 1) := by decide +kernel
theorem dX3_init_6 : decode cX3_init 6 = .ok (.putfield 9, 3) := by decide +kernel
theorem dX3_init_9 : decode cX3_init 9 = .ok (.aload_n 0, 1) := by decide +kernel
theorem dX3_init_10 : decode cX3_init 10 = .ok (.bipush 60, 2) := by decide +kernel
theorem dX3_init_12 : decode cX3_init 12 = .ok (.newarray .byte, 2) := by decide +kernel
theorem dX3_init_14 : decode cX3_init 14 = .ok (.putfield 15, 3) := by decide +kernel
theorem dX3_init_17 : decode cX3_init 17 = .ok (.aload_n 0, 1) := by decide +kernel
theorem dX3_init_18 : decode cX3_init 18 = .ok (.iconst 0, 1) := by decide +kernel
theorem dX3_init_19 : decode cX3_init 19 = .ok (.putfield 19, 3) := by decide +kernel
theorem dX3_init_22 : decode cX3_init 22 = .ok (.aload_n 0, 1) := by decide +kernel
theorem dX3_init_23 : decode cX3_init 23 = .ok (.bipush 30, 2) := by decide +kernel
theorem dX3_init_25 : decode cX3_init 25 = .ok (.newarray .int, 2) := by decide +kernel
theorem dX3_init_27 : decode cX3_init 27 = .ok (.putfield 22, 3) := by decide +kernel
theorem dX3_init_30 : decode cX3_init 30 = .ok (.return_, 1) := by decide +kernel
theorem dX3_append_0 : decode cX3_append 0 = .ok (.aload_n 0, 1) := by decide +kernel
theorem dX3_append_1 : decode cX3_append 1 = .ok (.getfield 9, 3) := by decide +kernel
theorem dX3_append_4 : decode cX3_append 4 = .ok (.bipush 60, 2) := by decide +kernel
theorem dX3_append_6 : decode cX3_append 6 = .ok (.if_icmp .ge 24, 3) := by decide +kernel
theorem dX3_append_9 : decode cX3_append 9 = .ok (.aload_n 0, 1) := by decide +kernel
theorem dX3_append_10 : decode cX3_append 10 = .ok (.getfield 15, 3) := by decide +kernel
theorem dX3_append_13 : decode cX3_append 13 = .ok (.aload_n 0, 1) := by decide +kernel
theorem dX3_append_14 : decode cX3_append 14 = .ok (.getfield 9, 3) := by decide +kernel
theorem dX3_append_17 : decode cX3_append 17 = .ok (.iload_n 1, 1) := by decide +kernel
theorem dX3_append_18 : decode cX3_append 18 = .ok (.i2b, 1) := by decide +kernel
theorem dX3_append_19 : decode cX3_append 19 = .ok (.bastore, 1) := by decide +kernel
theorem dX3_append_20 : decode cX3_append 20 = .ok (.aload_n 0, 1) := by decide +kernel
theorem dX3_append_21 : decode cX3_append 21 = .ok (.dup, 1) := by decide +kernel
theorem dX3_append_22 : decode cX3_append 22 = .ok (.getfield 9, 3) := by decide +kernel
theorem dX3_append_25 : decode cX3_append 25 = .ok (.iconst 1, 1) := by decide +kernel
theorem dX3_append_26 : decode cX3_append 26 = .ok (.iadd, 1) := by decide +kernel
theorem dX3_append_27 : decode cX3_append 27 = .ok (.putfield 9, 3) := by decide +kernel
theorem dX3_append_30 : decode cX3_append 30 = .ok (.return_, 1) := by decide +kernel
theorem dX3_readNumbers_0 : decode cX3_readNumbers 0 = .ok (.aload_n 0, 1) := by decide +kernel
theorem dX3_readNumbers_1 : decode cX3_readNumbers 1 = .ok (.iconst 0, 1) := by decide +kernel
theorem dX3_readNumbers_2 : decode cX3_readNumbers 2 = .ok (.putfield 19, 3) := by decide +kernel
theorem dX3_readNumbers_5 : decode cX3_readNumbers 5 = .ok (.iconst 0, 1) := by decide +kernel
theorem dX3_readNumbers_6 : decode cX3_readNumbers 6 = .ok (.istore_n 1, 1) := by decide +kernel
theorem dX3_readNumbers_7 : decode cX3_readNumbers 7 = .ok (.iconst 0, 1) := by decide +kernel
theorem dX3_readNumbers_8 : decode cX3_readNumbers 8 = .ok (.istore_n 2, 1) := by decide +kernel
theorem dX3_readNumbers_9 : decode cX3_readNumbers 9 = .ok (.iconst 0, 1) := by decide +kernel
theorem dX3_readNumbers_10 : decode cX3_readNumbers 10 = .ok (.istore_n 3, 1) := by decide +kernel
theorem dX3_readNumbers_11 : decode cX3_readNumbers 11 = .ok (.iload_n 3, 1) := by decide +kernel
theorem dX3_readNumbers_12 : decode cX3_readNumbers 12 = .ok (.aload_n 0, 1) := by decide +kernel
theorem dX3_readNumbers_13 : decode cX3_readNumbers 13 = .ok (.getfield 9, 3) := by decide +kernel
theorem dX3_readNumbers_16 : decode cX3_readNumbers 16 = .ok (.if_icmp .ge 74, 3) := by decide +kernel
theorem dX3_readNumbers_19 : decode cX3_readNumbers 19 = .ok (.aload_n 0, 1) := by decide +kernel
theorem dX3_readNumbers_20 : decode cX3_readNumbers 20 = .ok (.getfield 15, 3) := by decide +kernel
theorem dX3_readNumbers_23 : decode cX3_readNumbers 23 = .ok (.iload_n 3, 1) := by decide +kernel
theorem dX3_readNumbers_24 : decode cX3_readNumbers 24 = .ok (.baload, 1) := by decide +kernel
theorem dX3_readNumbers_25 : decode cX3_readNumbers 25 = .ok (.istore 4, 2) := by decide +kernel
theorem dX3_readNumbers_27 : decode cX3_readNumbers 27 = .ok (.iload 4, 2) := by decide +kernel
theorem dX3_readNumbers_29 : decode cX3_readNumbers 29 = .ok (.invokestatic 26, 3) := by decide +kernel
theorem dX3_readNumbers_32 : decode cX3_readNumbers 32 = .ok (.ifCond .eq 25, 3) := by decide +kernel
theorem dX3_readNumbers_35 : decode cX3_readNumbers 35 = .ok (.iload_n 2, 1) := by decide +kernel
theorem dX3_readNumbers_36 : decode cX3_readNumbers 36 = .ok (.iconst 2, 1) := by decide +kernel
theorem dX3_readNumbers_37 : decode cX3_readNumbers 37 = .ok (.if_icmp .ge 20, 3) := by decide +kernel
theorem dX3_readNumbers_40 : decode cX3_readNumbers 40 = .ok (.bipush 10, 2) := by decide +kernel
theorem dX3_readNumbers_42 : decode cX3_readNumbers 42 = .ok (.iload_n 1, 1) := by decide +kernel
theorem dX3_readNumbers_43 : decode cX3_readNumbers 43 = .ok (.imul, 1) := by decide +kernel
theorem dX3_readNumbers_44 : decode cX3_readNumbers 44 = .ok (.iload 4, 2) := by decide +kernel
theorem dX3_readNumbers_46 : decode cX3_readNumbers 46 = .ok (.iadd, 1) := by decide +kernel
theorem dX3_readNumbers_47 : decode cX3_readNumbers 47 = .ok (.bipush 48, 2) := by decide +kernel
theorem dX3_readNumbers_49 : decode cX3_readNumbers 49 = .ok (.isub, 1) := by decide +kernel
theorem dX3_readNumbers_50 : decode cX3_readNumbers 50 = .ok (.istore_n 1, 1) := by decide +kernel
theorem dX3_readNumbers_51 : decode cX3_readNumbers 51 = .ok (.iinc 2 1, 3) := by decide +kernel
theorem dX3_readNumbers_54 : decode cX3_readNumbers 54 = .ok (.goto 30, 3) := by decide +kernel
theorem dX3_readNumbers_57 : decode cX3_readNumbers 57 = .ok (.iload_n 2, 1) := by decide +kernel
theorem dX3_readNumbers_58 : decode cX3_readNumbers 58 = .ok (.ifCond .le 24, 3) := by decide +kernel
theorem dX3_readNumbers_61 : decode cX3_readNumbers 61 = .ok (.iload 4, 2) := by decide +kernel
theorem dX3_readNumbers_63 : decode cX3_readNumbers 63 = .ok (.aload_n 0, 1) := by decide +kernel
theorem dX3_readNumbers_64 : decode cX3_readNumbers 64 = .ok (.invokevirtual 30, 3) := by decide +kernel
theorem dX3_readNumbers_67 : decode cX3_readNumbers 67 = .ok (.if_icmp .ne 15, 3) := by decide +kernel
theorem dX3_readNumbers_70 : decode cX3_readNumbers 70 = .ok (.aload_n 0, 1) := by decide +kernel
theorem dX3_readNumbers_71 : decode cX3_readNumbers 71 = .ok (.iload_n 1, 1) := by decide +kernel
theorem dX3_readNumbers_72 : decode cX3_readNumbers 72 = .ok (.invokevirtual 34, 3) := by decide +kernel
theorem dX3_readNumbers_75 : decode cX3_readNumbers 75 = .ok (.iconst 0, 1) := by decide +kernel
theorem dX3_readNumbers_76 : decode cX3_readNumbers 76 = .ok (.istore_n 1, 1) := by decide +kernel
theorem dX3_readNumbers_77 : decode cX3_readNumbers 77 = .ok (.iconst 0, 1) := by decide +kernel
theorem dX3_readNumbers_78 : decode cX3_readNumbers 78 = .ok (.istore_n 2, 1) := by decide +kernel
theorem dX3_readNumbers_79 : decode cX3_readNumbers 79 = .ok (.goto 5, 3) := by decide +kernel
theorem dX3_readNumbers_82 : decode cX3_readNumbers 82 = .ok (.iload_n 3, 1) := by decide +kernel
theorem dX3_readNumbers_83 : decode cX3_readNumbers 83 = .ok (.ireturn, 1) := by decide +kernel
theorem dX3_readNumbers_84 : decode cX3_readNumbers 84 = .ok (.iinc 3 1, 3) := by decide +kernel
theorem dX3_readNumbers_87 : decode cX3_readNumbers 87 = .ok (.goto (-76), 3) := by decide +kernel
theorem dX3_readNumbers_90 : decode cX3_readNumbers 90 = .ok (.iload_n 2, 1) := by decide +kernel
theorem dX3_readNumbers_91 : decode cX3_readNumbers 91 = .ok (.ifCond .eq 12, 3) := by decide +kernel
theorem dX3_readNumbers_94 : decode cX3_readNumbers 94 = .ok (.aload_n 0, 1) := by decide +kernel
theorem dX3_readNumbers_95 : decode cX3_readNumbers 95 = .ok (.invokevirtual 30, 3) := by decide +kernel
theorem dX3_readNumbers_98 : decode cX3_readNumbers 98 = .ok (.bipush 44, 2) := by decide +kernel
theorem dX3_readNumbers_100 : decode cX3_readNumbers 100 = .ok (.if_icmp .ne 8, 3) := by decide +kernel
theorem dX3_readNumbers_103 : decode cX3_readNumbers 103 = .ok (.aload_n 0, 1) := by decide +kernel
theorem dX3_readNumbers_104 : decode cX3_readNumbers 104 = .ok (.getfield 9, 3) := by decide +kernel
theorem dX3_readNumbers_107 : decode cX3_readNumbers 107 = .ok (.ireturn, 1) := by decide +kernel
theorem dX3_readNumbers_108 : decode cX3_readNumbers 108 = .ok (.aload_n 0, 1) := by decide +kernel
theorem dX3_readNumbers_109 : decode cX3_readNumbers 109 = .ok (.iload_n 1, 1) := by decide +kernel
theorem dX3_readNumbers_110 : decode cX3_readNumbers 110 = .ok (.invokevirtual 34, 3) := by decide +kernel
theorem dX3_readNumbers_113 : decode cX3_readNumbers 113 = .ok (.iconst (-1), 1) := by decide +kernel
theorem dX3_readNumbers_114 : decode cX3_readNumbers 114 = .ok (.ireturn, 1) := by decide +kernel
theorem dX3_isDigit_0 : decode cX3_isDigit 0 = .ok (.iload_n 0, 1) := by decide +kernel
theorem dX3_isDigit_1 : decode cX3_isDigit 1 = .ok (.bipush 48, 2) := by decide +kernel
theorem dX3_isDigit_3 : decode cX3_isDigit 3 = .ok (.if_icmp .lt 13, 3) := by decide +kernel
theorem dX3_isDigit_6 : decode cX3_isDigit 6 = .ok (.iload_n 0, 1) := by decide +kernel
theorem dX3_isDigit_7 : decode cX3_isDigit 7 = .ok (.bipush 57, 2) := by decide +kernel
theorem dX3_isDigit_9 : decode cX3_isDigit 9 = .ok (.if_icmp .gt 7, 3) := by decide +kernel
theorem dX3_isDigit_12 : decode cX3_isDigit 12 = .ok (.iconst 1, 1) := by decide +kernel
theorem dX3_isDigit_13 : decode cX3_isDigit 13 = .ok (.goto 4, 3) := by decide +kernel
theorem dX3_isDigit_16 : decode cX3_isDigit 16 = .ok (.iconst 0, 1) := by decide +kernel
theorem dX3_isDigit_17 : decode cX3_isDigit 17 = .ok (.ireturn, 1) := by decide +kernel
theorem dX3_signBehindNumber_0 : decode cX3_signBehindNumber 0 = .ok (.aload_n 0, 1) := by decide +kernel
theorem dX3_signBehindNumber_1 : decode cX3_signBehindNumber 1 = .ok (.getfield 19, 3) := by decide +kernel
theorem dX3_signBehindNumber_4 : decode cX3_signBehindNumber 4 = .ok (.iconst 2, 1) := by decide +kernel
theorem dX3_signBehindNumber_5 : decode cX3_signBehindNumber 5 = .ok (.irem, 1) := by decide +kernel
theorem dX3_signBehindNumber_6 : decode cX3_signBehindNumber 6 = .ok (.ifCond .ne 8, 3) := by decide +kernel
theorem dX3_signBehindNumber_9 : decode cX3_signBehindNumber 9 = .ok (.bipush 44, 2) := by decide +kernel
theorem dX3_signBehindNumber_11 : decode cX3_signBehindNumber 11 = .ok (.goto 5, 3) := by decide +kernel
theorem dX3_signBehindNumber_14 : decode cX3_signBehindNumber 14 = .ok (.bipush 59, 2) := by decide +kernel
theorem dX3_signBehindNumber_16 : decode cX3_signBehindNumber 16 = .ok (.ireturn, 1) := by decide +kernel
theorem dX3_appendNumber_0 : decode cX3_appendNumber 0 = .ok (.aload_n 0, 1) := by decide +kernel
theorem dX3_appendNumber_1 : decode cX3_appendNumber 1 = .ok (.getfield 19, 3) := by decide +kernel
theorem dX3_appendNumber_4 : decode cX3_appendNumber 4 = .ok (.bipush 30, 2) := by decide +kernel
theorem dX3_appendNumber_6 : decode cX3_appendNumber 6 = .ok (.if_icmp .ge 23, 3) := by decide +kernel
theorem dX3_appendNumber_9 : decode cX3_appendNumber 9 = .ok (.aload_n 0, 1) := by decide +kernel
theorem dX3_appendNumber_10 : decode cX3_appendNumber 10 = .ok (.getfield 22, 3) := by decide +kernel
theorem dX3_appendNumber_13 : decode cX3_appendNumber 13 = .ok (.aload_n 0, 1) := by decide +kernel
theorem dX3_appendNumber_14 : decode cX3_appendNumber 14 = .ok (.getfield 19, 3) := by decide +kernel
theorem dX3_appendNumber_17 : decode cX3_appendNumber 17 = .ok (.iload_n 1, 1) := by decide +kernel
theorem dX3_appendNumber_18 : decode cX3_appendNumber 18 = .ok (.iastore, 1) := by decide +kernel
theorem dX3_appendNumber_19 : decode cX3_appendNumber 19 = .ok (.aload_n 0, 1) := by decide +kernel
theorem dX3_appendNumber_20 : decode cX3_appendNumber 20 = .ok (.dup, 1) := by decide +kernel
theorem dX3_appendNumber_21 : decode cX3_appendNumber 21 = .ok (.getfield 19, 3) := by decide +kernel
theorem dX3_appendNumber_24 : decode cX3_appendNumber 24 = .ok (.iconst 1, 1) := by decide +kernel
theorem dX3_appendNumber_25 : decode cX3_appendNumber 25 = .ok (.iadd, 1) := by decide +kernel
theorem dX3_appendNumber_26 : decode cX3_appendNumber 26 = .ok (.putfield 19, 3) := by decide +kernel
theorem dX3_appendNumber_29 : decode cX3_appendNumber 29 = .ok (.return_, 1) := by decide +kernel
theorem dX4_init_0 : decode cX4_init 0 = .ok (.aload_n 0, 1) := by decide +kernel
theorem dX4_init_1 : decode cX4_init 1 = .ok (.invokespecial 3, 3) := by decide +kernel
theorem dX4_init_4 : decode cX4_init 4 = .ok (.aload_n 0, 1) := by decide +kernel
theorem dX4_init_5 : decode cX4_init 5 = .ok (.iconst 1, 1) := by decide +kernel
theorem dX4_init_6 : decode cX4_init 6 = .ok (.putfield 9, 3) := by decide +kernel
theorem dX4_init_9 : decode cX4_init 9 = .ok (.aload_n 0, 1) := by decide +kernel
theorem dX4_init_10 : decode cX4_init 10 = .ok (.iconst 0, 1) := by decide +kernel
theorem dX4_init_11 : decode cX4_init 11 = .ok (.putfield 15, 3) := by decide +kernel
theorem dX4_init_14 : decode cX4_init 14 = .ok (.aload_n 0, 1) := by decide +kernel
theorem dX4_init_15 : decode cX4_init 15 = .ok (.iconst 1, 1) := by decide +kernel
theorem dX4_init_16 : decode cX4_init 16 = .ok (.putfield 18, 3) := by decide +kernel
theorem dX4_init_19 : decode cX4_init 19 = .ok (.return_, 1) := by decide +kernel
theorem dX4_choose_0 : decode cX4_choose 0 = .ok (.aload_n 0, 1) := by decide +kernel
theorem dX4_choose_1 : decode cX4_choose 1 = .ok (.iload_n 1, 1) := by decide +kernel
theorem dX4_choose_2 : decode cX4_choose 2 = .ok (.putfield 9, 3) := by decide +kernel
theorem dX4_choose_5 : decode cX4_choose 5 = .ok (.aload_n 0, 1) := by decide +kernel
theorem dX4_choose_6 : decode cX4_choose 6 = .ok (.iload_n 2, 1) := by decide +kernel
theorem dX4_choose_7 : decode cX4_choose 7 = .ok (.putfield 15, 3) := by decide +kernel
theorem dX4_choose_10 : decode cX4_choose 10 = .ok (.aload_n 0, 1) := by decide +kernel
theorem dX4_choose_11 : decode cX4_choose 11 = .ok (.iload_n 3, 1) := by decide +kernel
theorem dX4_choose_12 : decode cX4_choose 12 = .ok (.putfield 18, 3) := by decide +kernel
theorem dX4_choose_15 : decode cX4_choose 15 = .ok (.return_, 1) := by decide +kernel
theorem dX4_isSmaller_0 : decode cX4_isSmaller 0 = .ok (.aload_n 0, 1) := by decide +kernel
theorem dX4_isSmaller_1 : decode cX4_isSmaller 1 = .ok (.iload_n 1, 1) := by decide +kernel
theorem dX4_isSmaller_2 : decode cX4_isSmaller 2 = .ok (.invokevirtual 21, 3) := by decide +kernel
theorem dX4_isSmaller_5 : decode cX4_isSmaller 5 = .ok (.aload_n 0, 1) := by decide +kernel
theorem dX4_isSmaller_6 : decode cX4_isSmaller 6 = .ok (.iload_n 2, 1) := by decide +kernel
theorem dX4_isSmaller_7 : decode cX4_isSmaller 7 = .ok (.invokevirtual 21, 3) := by decide +kernel
theorem dX4_isSmaller_10 : decode cX4_isSmaller 10 = .ok (.isub, 1) := by decide +kernel
theorem dX4_isSmaller_11 : decode cX4_isSmaller 11 = .ok (.istore_n 3, 1) := by decide +kernel
theorem dX4_isSmaller_12 : decode cX4_isSmaller 12 = .ok (.iload_n 3, 1) := by decide +kernel
theorem dX4_isSmaller_13 : decode cX4_isSmaller 13 = .ok (.ifCond .eq 13, 3) := by decide +kernel
theorem dX4_isSmaller_16 : decode cX4_isSmaller 16 = .ok (.iload_n 3, 1) := by decide +kernel
theorem dX4_isSmaller_17 : decode cX4_isSmaller 17 = .ok (.ifCond .ge 7, 3) := by decide +kernel
theorem dX4_isSmaller_20 : decode cX4_isSmaller 20 = .ok (.iconst 1, 1) := by decide +kernel
theorem dX4_isSmaller_21 : decode cX4_isSmaller 21 = .ok (.goto 4, 3) := by decide +kernel
theorem dX4_isSmaller_24 : decode cX4_isSmaller 24 = .ok (.iconst 0, 1) := by decide +kernel
theorem dX4_isSmaller_25 : decode cX4_isSmaller 25 = .ok (.ireturn, 1) := by decide +kernel
theorem dX4_isSmaller_26 : decode cX4_isSmaller 26 = .ok (.iload_n 1, 1) := by decide +kernel
theorem dX4_isSmaller_27 : decode cX4_isSmaller 27 = .ok (.bipush 9, 2) := by decide +kernel
theorem dX4_isSmaller_29 : decode cX4_isSmaller 29 = .ok (.irem, 1) := by decide +kernel
theorem dX4_isSmaller_30 : decode cX4_isSmaller 30 = .ok (.iload_n 2, 1) := by decide +kernel
theorem dX4_isSmaller_31 : decode cX4_isSmaller 31 = .ok (.bipush 9, 2) := by decide +kernel
theorem dX4_isSmaller_33 : decode cX4_isSmaller 33 = .ok (.irem, 1) := by decide +kernel
theorem dX4_isSmaller_34 : decode cX4_isSmaller 34 = .ok (.isub, 1) := by decide +kernel
theorem dX4_isSmaller_35 : decode cX4_isSmaller 35 = .ok (.istore 4, 2) := by decide +kernel
theorem dX4_isSmaller_37 : decode cX4_isSmaller 37 = .ok (.aload_n 0, 1) := by decide +kernel
theorem dX4_isSmaller_38 : decode cX4_isSmaller 38 = .ok (.getfield 18, 3) := by decide +kernel
theorem dX4_isSmaller_41 : decode cX4_isSmaller 41 = .ok (.iconst 1, 1) := by decide +kernel
theorem dX4_isSmaller_42 : decode cX4_isSmaller 42 = .ok (.if_icmp .ne 19, 3) := by decide +kernel
theorem dX4_isSmaller_45 : decode cX4_isSmaller 45 = .ok (.iload 4, 2) := by decide +kernel
theorem dX4_isSmaller_47 : decode cX4_isSmaller 47 = .ok (.ifCond .eq 14, 3) := by decide +kernel
theorem dX4_isSmaller_50 : decode cX4_isSmaller 50 = .ok (.iload 4, 2) := by decide +kernel
theorem dX4_isSmaller_52 : decode cX4_isSmaller 52 = .ok (.ifCond .ge 7, 3) := by decide +kernel
theorem dX4_isSmaller_55 : decode cX4_isSmaller 55 = .ok (.iconst 1, 1) := by decide +kernel
theorem dX4_isSmaller_56 : decode cX4_isSmaller 56 = .ok (.goto 4, 3) := by decide +kernel
theorem dX4_isSmaller_59 : decode cX4_isSmaller 59 = .ok (.iconst 0, 1) := by decide +kernel
theorem dX4_isSmaller_60 : decode cX4_isSmaller 60 = .ok (.ireturn, 1) := by decide +kernel
theorem dX4_isSmaller_61 : decode cX4_isSmaller 61 = .ok (.iload_n 1, 1) := by decide +kernel
theorem dX4_isSmaller_62 : decode cX4_isSmaller 62 = .ok (.iload_n 2, 1) := by decide +kernel
theorem dX4_isSmaller_63 : decode cX4_isSmaller 63 = .ok (.if_icmp .ge 7, 3) := by decide +kernel
theorem dX4_isSmaller_66 : decode cX4_isSmaller 66 = .ok (.iconst 1, 1) := by decide +kernel
theorem dX4_isSmaller_67 : decode cX4_isSmaller 67 = .ok (.goto 4, 3) := by decide +kernel
theorem dX4_isSmaller_70 : decode cX4_isSmaller 70 = .ok (.iconst 0, 1) := by decide +kernel
theorem dX4_isSmaller_71 : decode cX4_isSmaller 71 = .ok (.ireturn, 1) := by decide +kernel
theorem dX4_weightOf_0 : decode cX4_weightOf 0 = .ok (.aload_n 0, 1) := by decide +kernel
theorem dX4_weightOf_1 : decode cX4_weightOf 1 = .ok (.getfield 9, 3) := by decide +kernel
theorem dX4_weightOf_4 : decode cX4_weightOf 4 = .ok (.iload_n 1, 1) := by decide +kernel
theorem dX4_weightOf_5 : decode cX4_weightOf 5 = .ok (.bipush 9, 2) := by decide +kernel
theorem dX4_weightOf_7 : decode cX4_weightOf 7 = .ok (.idiv, 1) := by decide +kernel
theorem dX4_weightOf_8 : decode cX4_weightOf 8 = .ok (.imul, 1) := by decide +kernel
theorem dX4_weightOf_9 : decode cX4_weightOf 9 = .ok (.aload_n 0, 1) := by decide +kernel
theorem dX4_weightOf_10 : decode cX4_weightOf 10 = .ok (.getfield 15, 3) := by decide +kernel
theorem dX4_weightOf_13 : decode cX4_weightOf 13 = .ok (.iload_n 1, 1) := by decide +kernel
theorem dX4_weightOf_14 : decode cX4_weightOf 14 = .ok (.bipush 9, 2) := by decide +kernel
theorem dX4_weightOf_16 : decode cX4_weightOf 16 = .ok (.irem, 1) := by decide +kernel
theorem dX4_weightOf_17 : decode cX4_weightOf 17 = .ok (.imul, 1) := by decide +kernel
theorem dX4_weightOf_18 : decode cX4_weightOf 18 = .ok (.iadd, 1) := by decide +kernel
theorem dX4_weightOf_19 : decode cX4_weightOf 19 = .ok (.ireturn, 1) := by decide +kernel
theorem dX5_init_0 : decode cX5_init 0 = .ok (.aload_n 0, 1) := by decide +kernel
theorem dX5_init_1 : decode cX5_init 1 = .ok (.invokespecial 3, 3) := by decide +kernel
theorem dX5_init_4 : decode cX5_init 4 = .ok (.aload_n 0, 1) := by decide +kernel
theorem dX5_init_5 : decode cX5_init 5 = .ok (.bipush 7, 2) := by decide +kernel
theorem dX5_init_7 : decode cX5_init 7 = .ok (.putfield 9, 3) := by decide +kernel
theorem dX5_init_10 : decode cX5_init 10 = .ok (.aload_n 0, 1) := by decide +kernel
theorem dX5_init_11 : decode cX5_init 11 = .ok (.iconst 0, 1) := by decide +kernel
theorem dX5_init_12 : decode cX5_init 12 = .ok (.putfield 15, 3) := by decide +kernel
theorem dX5_init_15 : decode cX5_init 15 = .ok (.aload_n 0, 1) := by decide +kernel
theorem dX5_init_16 : decode cX5_init 16 = .ok (.bipush 8, 2) := by decide +kernel
theorem dX5_init_18 : decode cX5_init 18 = .ok (.newarray .int, 2) := by decide +kernel
theorem dX5_init_20 : decode cX5_init 20 = .ok (.putfield 18, 3) := by decide +kernel
theorem dX5_init_23 : decode cX5_init 23 = .ok (.aload_n 0, 1) := by decide +kernel
theorem dX5_init_24 : decode cX5_init 24 = .ok (.bipush 8, 2) := by decide +kernel
theorem dX5_init_26 : decode cX5_init 26 = .ok (.newarray .int, 2) := by decide +kernel
theorem dX5_init_28 : decode cX5_init 28 = .ok (.putfield 22, 3) := by decide +kernel
theorem dX5_init_31 : decode cX5_init 31 = .ok (.return_, 1) := by decide +kernel
theorem dX5_restart_0 : decode cX5_restart 0 = .ok (.aload_n 0, 1) := by decide +kernel
theorem dX5_restart_1 : decode cX5_restart 1 = .ok (.iload_n 1, 1) := by decide +kernel
theorem dX5_restart_2 : decode cX5_restart 2 = .ok (.putfield 9, 3) := by decide +kernel
theorem dX5_restart_5 : decode cX5_restart 5 = .ok (.aload_n 0, 1) := by decide +kernel
theorem dX5_restart_6 : decode cX5_restart 6 = .ok (.iconst 0, 1) := by decide +kernel
theorem dX5_restart_7 : decode cX5_restart 7 = .ok (.putfield 15, 3) := by decide +kernel
theorem dX5_restart_10 : decode cX5_restart 10 = .ok (.return_, 1) := by decide +kernel
theorem dX5_copyFrom_0 : decode cX5_copyFrom 0 = .ok (.aload_n 0, 1) := by decide +kernel
theorem dX5_copyFrom_1 : decode cX5_copyFrom 1 = .ok (.aload_n 1, 1) := by decide +kernel
theorem dX5_copyFrom_2 : decode cX5_copyFrom 2 = .ok (.getfield 9, 3) := by decide +kernel
theorem dX5_copyFrom_5 : decode cX5_copyFrom 5 = .ok (.putfield 9, 3) := by decide +kernel
theorem dX5_copyFrom_8 : decode cX5_copyFrom 8 = .ok (.aload_n 0, 1) := by decide +kernel
theorem dX5_copyFrom_9 : decode cX5_copyFrom 9 = .ok (.aload_n 1, 1) := by decide +kernel
theorem dX5_copyFrom_10 : decode cX5_copyFrom 10 = .ok (.getfield 15, 3) := by decide +kernel
theorem dX5_copyFrom_13 : decode cX5_copyFrom 13 = .ok (.putfield 15, 3) := by decide +kernel
theorem dX5_copyFrom_16 : decode cX5_copyFrom 16 = .ok (.aload_n 1, 1) := by decide +kernel
theorem dX5_copyFrom_17 : decode cX5_copyFrom 17 = .ok (.getfield 18, 3) := by decide +kernel
theorem dX5_copyFrom_20 : decode cX5_copyFrom 20 = .ok (.iconst 0, 1) := by decide +kernel
theorem dX5_copyFrom_21 : decode cX5_copyFrom 21 = .ok (.aload_n 0, 1) := by decide +kernel
theorem dX5_copyFrom_22 : decode cX5_copyFrom 22 = .ok (.getfield 18, 3) := by decide +kernel
theorem dX5_copyFrom_25 : decode cX5_copyFrom 25 = .ok (.iconst 0, 1) := by decide +kernel
theorem dX5_copyFrom_26 : decode cX5_copyFrom 26 = .ok (.bipush 8, 2) := by decide +kernel
theorem dX5_copyFrom_28 : decode cX5_copyFrom 28 = .ok (.invokestatic 25, 3) := by decide +kernel
theorem dX5_copyFrom_31 : decode cX5_copyFrom 31 = .ok (.aload_n 1, 1) := by decide +kernel
theorem dX5_copyFrom_32 : decode cX5_copyFrom 32 = .ok (.getfield 22, 3) := by decide +kernel
theorem dX5_copyFrom_35 : decode cX5_copyFrom 35 = .ok (.iconst 0, 1) := by decide +kernel
theorem dX5_copyFrom_36 : decode cX5_copyFrom 36 = .ok (.aload_n 0, 1) := by decide +kernel
theorem dX5_copyFrom_37 : decode cX5_copyFrom 37 = .ok (.getfield 22, 3) := by decide +kernel
theorem dX5_copyFrom_40 : decode cX5_copyFrom 40 = .ok (.iconst 0, 1) := by decide +kernel
theorem dX5_copyFrom_41 : decode cX5_copyFrom 41 = .ok (.bipush 8, 2) := by decide +kernel
theorem dX5_copyFrom_43 : decode cX5_copyFrom 43 = .ok (.invokestatic 25, 3) := by decide +kernel
theorem dX5_copyFrom_46 : decode cX5_copyFrom 46 = .ok (.return_, 1) := by decide +kernel
theorem dX5_isResidue_0 : decode cX5_isResidue 0 = .ok (.iload_n 1, 1) := by decide +kernel
theorem dX5_isResidue_1 : decode cX5_isResidue 1 = .ok (.ifCond .lt 15, 3) := by decide +kernel
theorem dX5_isResidue_4 : decode cX5_isResidue 4 = .ok (.iload_n 1, 1) := by decide +kernel
theorem dX5_isResidue_5 : decode cX5_isResidue 5 = .ok (.aload_n 0, 1) := by decide +kernel
theorem dX5_isResidue_6 : decode cX5_isResidue 6 = .ok (.getfield 9, 3) := by decide +kernel
theorem dX5_isResidue_9 : decode cX5_isResidue 9 = .ok (.if_icmp .ge 7, 3) := by decide +kernel
theorem dX5_isResidue_12 : decode cX5_isResidue 12 = .ok (.iconst 1, 1) := by decide +kernel
theorem dX5_isResidue_13 : decode cX5_isResidue 13 = .ok (.goto 4, 3) := by decide +kernel
theorem dX5_isResidue_16 : decode cX5_isResidue 16 = .ok (.iconst 0, 1) := by decide +kernel
theorem dX5_isResidue_17 : decode cX5_isResidue 17 = .ok (.ireturn, 1) := by decide +kernel
theorem dX5_residue_0 : decode cX5_residue 0 = .ok (.iload_n 1, 1) := by decide +kernel
theorem dX5_residue_1 : decode cX5_residue 1 = .ok (.aload_n 0, 1) := by decide +kernel
theorem dX5_residue_2 : decode cX5_residue 2 = .ok (.getfield 9, 3) := by decide +kernel
theorem dX5_residue_5 : decode cX5_residue 5 = .ok (.invokestatic 31, 3) := by decide +kernel
theorem dX5_residue_8 : decode cX5_residue 8 = .ok (.ireturn, 1) := by decide +kernel
theorem dX5_inverse_0 : decode cX5_inverse 0 = .ok (.iconst 1, 1) := by decide +kernel
theorem dX5_inverse_1 : decode cX5_inverse 1 = .ok (.istore_n 2, 1) := by decide +kernel
theorem dX5_inverse_2 : decode cX5_inverse 2 = .ok (.iload_n 2, 1) := by decide +kernel
theorem dX5_inverse_3 : decode cX5_inverse 3 = .ok (.aload_n 0, 1) := by decide +kernel
theorem dX5_inverse_4 : decode cX5_inverse 4 = .ok (.getfield 9, 3) := by decide +kernel
theorem dX5_inverse_7 : decode cX5_inverse 7 = .ok (.if_icmp .ge 23, 3) := by decide +kernel
theorem dX5_inverse_10 : decode cX5_inverse 10 = .ok (.iload_n 2, 1) := by decide +kernel
theorem dX5_inverse_11 : decode cX5_inverse 11 = .ok (.iload_n 1, 1) := by decide +kernel
theorem dX5_inverse_12 : decode cX5_inverse 12 = .ok (.imul, 1) := by decide +kernel
theorem dX5_inverse_13 : decode cX5_inverse 13 = .ok (.aload_n 0, 1) := by decide +kernel
theorem dX5_inverse_14 : decode cX5_inverse 14 = .ok (.getfield 9, 3) := by decide +kernel
theorem dX5_inverse_17 : decode cX5_inverse 17 = .ok (.irem, 1) := by decide +kernel
theorem dX5_inverse_18 : decode cX5_inverse 18 = .ok (.iconst 1, 1) := by decide +kernel
theorem dX5_inverse_19 : decode cX5_inverse 19 = .ok (.if_icmp .ne 5, 3) := by decide +kernel
theorem dX5_inverse_22 : decode cX5_inverse 22 = .ok (.iload_n 2, 1) := by decide +kernel
theorem dX5_inverse_23 : decode cX5_inverse 23 = .ok (.ireturn, 1) := by decide +kernel
theorem dX5_inverse_24 : decode cX5_inverse 24 = .ok (.iinc 2 1, 3) := by decide +kernel
theorem dX5_inverse_27 : decode cX5_inverse 27 = .ok (.goto (-25), 3) := by decide +kernel
theorem dX5_inverse_30 : decode cX5_inverse 30 = .ok (.iconst 0, 1) := by decide +kernel
theorem dX5_inverse_31 : decode cX5_inverse 31 = .ok (.ireturn, 1) := by decide +kernel
theorem dX5_hasIndex_0 : decode cX5_hasIndex 0 = .ok (.iload_n 1, 1) := by decide +kernel
theorem dX5_hasIndex_1 : decode cX5_hasIndex 1 = .ok (.ifCond .lt 15, 3) := by decide +kernel
theorem dX5_hasIndex_4 : decode cX5_hasIndex 4 = .ok (.iload_n 1, 1) := by decide +kernel
theorem dX5_hasIndex_5 : decode cX5_hasIndex 5 = .ok (.aload_n 0, 1) := by decide +kernel
theorem dX5_hasIndex_6 : decode cX5_hasIndex 6 = .ok (.getfield 15, 3) := by decide +kernel
theorem dX5_hasIndex_9 : decode cX5_hasIndex 9 = .ok (.if_icmp .ge 7, 3) := by decide +kernel
theorem dX5_hasIndex_12 : decode cX5_hasIndex 12 = .ok (.iconst 1, 1) := by decide +kernel
theorem dX5_hasIndex_13 : decode cX5_hasIndex 13 = .ok (.goto 4, 3) := by decide +kernel
theorem dX5_hasIndex_16 : decode cX5_hasIndex 16 = .ok (.iconst 0, 1) := by decide +kernel
theorem dX5_hasIndex_17 : decode cX5_hasIndex 17 = .ok (.ireturn, 1) := by decide +kernel
theorem dX5_holds_0 : decode cX5_holds 0 = .ok (.iconst 0, 1) := by decide +kernel
theorem dX5_holds_1 : decode cX5_holds 1 = .ok (.istore_n 3, 1) := by decide +kernel
theorem dX5_holds_2 : decode cX5_holds 2 = .ok (.iload_n 3, 1) := by decide +kernel
theorem dX5_holds_3 : decode cX5_holds 3 = .ok (.aload_n 0, 1) := by decide +kernel
theorem dX5_holds_4 : decode cX5_holds 4 = .ok (.getfield 15, 3) := by decide +kernel
theorem dX5_holds_7 : decode cX5_holds 7 = .ok (.if_icmp .ge 31, 3) := by decide +kernel
theorem dX5_holds_10 : decode cX5_holds 10 = .ok (.aload_n 0, 1) := by decide +kernel
theorem dX5_holds_11 : decode cX5_holds 11 = .ok (.getfield 18, 3) := by decide +kernel
theorem dX5_holds_14 : decode cX5_holds 14 = .ok (.iload_n 3, 1) := by decide +kernel
theorem dX5_holds_15 : decode cX5_holds 15 = .ok (.iaload, 1) := by decide +kernel
theorem dX5_holds_16 : decode cX5_holds 16 = .ok (.iload_n 1, 1) := by decide +kernel
theorem dX5_holds_17 : decode cX5_holds 17 = .ok (.if_icmp .ne 15, 3) := by decide +kernel
theorem dX5_holds_20 : decode cX5_holds 20 = .ok (.aload_n 0, 1) := by decide +kernel
theorem dX5_holds_21 : decode cX5_holds 21 = .ok (.getfield 22, 3) := by decide +kernel
theorem dX5_holds_24 : decode cX5_holds 24 = .ok (.iload_n 3, 1) := by decide +kernel
theorem dX5_holds_25 : decode cX5_holds 25 = .ok (.iaload, 1) := by decide +kernel
theorem dX5_holds_26 : decode cX5_holds 26 = .ok (.iload_n 2, 1) := by decide +kernel
theorem dX5_holds_27 : decode cX5_holds 27 = .ok (.if_icmp .ne 5, 3) := by decide +kernel
theorem dX5_holds_30 : decode cX5_holds 30 = .ok (.iconst 1, 1) := by decide +kernel
theorem dX5_holds_31 : decode cX5_holds 31 = .ok (.ireturn, 1) := by decide +kernel
theorem dX5_holds_32 : decode cX5_holds 32 = .ok (.iinc 3 1, 3) := by decide +kernel
theorem dX5_holds_35 : decode cX5_holds 35 = .ok (.goto (-33), 3) := by decide +kernel
theorem dX5_holds_38 : decode cX5_holds 38 = .ok (.iconst 0, 1) := by decide +kernel
theorem dX5_holds_39 : decode cX5_holds 39 = .ok (.ireturn, 1) := by decide +kernel
theorem dX5_append_0 : decode cX5_append 0 = .ok (.aload_n 0, 1) := by decide +kernel
theorem dX5_append_1 : decode cX5_append 1 = .ok (.getfield 15, 3) := by decide +kernel
theorem dX5_append_4 : decode cX5_append 4 = .ok (.bipush 8, 2) := by decide +kernel
theorem dX5_append_6 : decode cX5_append 6 = .ok (.if_icmp .ge 33, 3) := by decide +kernel
theorem dX5_append_9 : decode cX5_append 9 = .ok (.aload_n 0, 1) := by decide +kernel
theorem dX5_append_10 : decode cX5_append 10 = .ok (.getfield 18, 3) := by decide +kernel
theorem dX5_append_13 : decode cX5_append 13 = .ok (.aload_n 0, 1) := by decide +kernel
theorem dX5_append_14 : decode cX5_append 14 = .ok (.getfield 15, 3) := by decide +kernel
theorem dX5_append_17 : decode cX5_append 17 = .ok (.iload_n 1, 1) := by decide +kernel
theorem dX5_append_18 : decode cX5_append 18 = .ok (.iastore, 1) := by decide +kernel
theorem dX5_append_19 : decode cX5_append 19 = .ok (.aload_n 0, 1) := by decide +kernel
theorem dX5_append_20 : decode cX5_append 20 = .ok (.getfield 22, 3) := by decide +kernel
theorem dX5_append_23 : decode cX5_append 23 = .ok (.aload_n 0, 1) := by decide +kernel
theorem dX5_append_24 : decode cX5_append 24 = .ok (.getfield 15, 3) := by decide +kernel
theorem dX5_append_27 : decode cX5_append 27 = .ok (.iload_n 2, 1) := by decide +kernel
theorem dX5_append_28 : decode cX5_append 28 = .ok (.iastore, 1) := by decide +kernel
theorem dX5_append_29 : decode cX5_append 29 = .ok (.aload_n 0, 1) := by decide +kernel
theorem dX5_append_30 : decode cX5_append 30 = .ok (.dup, 1) := by decide +kernel
theorem dX5_append_31 : decode cX5_append 31 = .ok (.getfield 15, 3) := by decide +kernel
theorem dX5_append_34 : decode cX5_append 34 = .ok (.iconst 1, 1) := by decide +kernel
theorem dX5_append_35 : decode cX5_append 35 = .ok (.iadd, 1) := by decide +kernel
theorem dX5_append_36 : decode cX5_append 36 = .ok (.putfield 15, 3) := by decide +kernel
theorem dX5_append_39 : decode cX5_append 39 = .ok (.return_, 1) := by decide +kernel
theorem dX5_remove_0 : decode cX5_remove 0 = .ok (.aload_n 0, 1) := by decide +kernel
theorem dX5_remove_1 : decode cX5_remove 1 = .ok (.dup, 1) := by decide +kernel
theorem dX5_remove_2 : decode cX5_remove 2 = .ok (.getfield 15, 3) := by decide +kernel
theorem dX5_remove_5 : decode cX5_remove 5 = .ok (.iconst 1, 1) := by decide +kernel
theorem dX5_remove_6 : decode cX5_remove 6 = .ok (.isub, 1) := by decide +kernel
theorem dX5_remove_7 : decode cX5_remove 7 = .ok (.putfield 15, 3) := by decide +kernel
theorem dX5_remove_10 : decode cX5_remove 10 = .ok (.iload_n 1, 1) := by decide +kernel
theorem dX5_remove_11 : decode cX5_remove 11 = .ok (.istore_n 2, 1) := by decide +kernel
theorem dX5_remove_12 : decode cX5_remove 12 = .ok (.iload_n 2, 1) := by decide +kernel
theorem dX5_remove_13 : decode cX5_remove 13 = .ok (.aload_n 0, 1) := by decide +kernel
theorem dX5_remove_14 : decode cX5_remove 14 = .ok (.getfield 15, 3) := by decide +kernel
theorem dX5_remove_17 : decode cX5_remove 17 = .ok (.if_icmp .ge 37, 3) := by decide +kernel
theorem dX5_remove_20 : decode cX5_remove 20 = .ok (.aload_n 0, 1) := by decide +kernel
theorem dX5_remove_21 : decode cX5_remove 21 = .ok (.getfield 18, 3) := by decide +kernel
theorem dX5_remove_24 : decode cX5_remove 24 = .ok (.iload_n 2, 1) := by decide +kernel
theorem dX5_remove_25 : decode cX5_remove 25 = .ok (.aload_n 0, 1) := by decide +kernel
theorem dX5_remove_26 : decode cX5_remove 26 = .ok (.getfield 18, 3) := by decide +kernel
theorem dX5_remove_29 : decode cX5_remove 29 = .ok (.iload_n 2, 1) := by decide +kernel
theorem dX5_remove_30 : decode cX5_remove 30 = .ok (.iconst 1, 1) := by decide +kernel
theorem dX5_remove_31 : decode cX5_remove 31 = .ok (.iadd, 1) := by decide +kernel
theorem dX5_remove_32 : decode cX5_remove 32 = .ok (.iaload, 1) := by decide +kernel
theorem dX5_remove_33 : decode cX5_remove 33 = .ok (.iastore, 1) := by decide +kernel
theorem dX5_remove_34 : decode cX5_remove 34 = .ok (.aload_n 0, 1) := by decide +kernel
theorem dX5_remove_35 : decode cX5_remove 35 = .ok (.getfield 22, 3) := by decide +kernel
theorem dX5_remove_38 : decode cX5_remove 38 = .ok (.iload_n 2, 1) := by decide +kernel
theorem dX5_remove_39 : decode cX5_remove 39 = .ok (.aload_n 0, 1) := by decide +kernel
theorem dX5_remove_40 : decode cX5_remove 40 = .ok (.getfield 22, 3) := by decide +kernel
theorem dX5_remove_43 : decode cX5_remove 43 = .ok (.iload_n 2, 1) := by decide +kernel
theorem dX5_remove_44 : decode cX5_remove 44 = .ok (.iconst 1, 1) := by decide +kernel
theorem dX5_remove_45 : decode cX5_remove 45 = .ok (.iadd, 1) := by decide +kernel
theorem dX5_remove_46 : decode cX5_remove 46 = .ok (.iaload, 1) := by decide +kernel
theorem dX5_remove_47 : decode cX5_remove 47 = .ok (.iastore, 1) := by decide +kernel
theorem dX5_remove_48 : decode cX5_remove 48 = .ok (.iinc 2 1, 3) := by decide +kernel
theorem dX5_remove_51 : decode cX5_remove 51 = .ok (.goto (-39), 3) := by decide +kernel
theorem dX5_remove_54 : decode cX5_remove 54 = .ok (.return_, 1) := by decide +kernel
theorem dX5_isSymmetric_0 : decode cX5_isSymmetric 0 = .ok (.iconst 0, 1) := by decide +kernel
theorem dX5_isSymmetric_1 : decode cX5_isSymmetric 1 = .ok (.istore_n 1, 1) := by decide +kernel
theorem dX5_isSymmetric_2 : decode cX5_isSymmetric 2 = .ok (.iload_n 1, 1) := by decide +kernel
theorem dX5_isSymmetric_3 : decode cX5_isSymmetric 3 = .ok (.aload_n 0, 1) := by decide +kernel
theorem dX5_isSymmetric_4 : decode cX5_isSymmetric 4 = .ok (.getfield 15, 3) := by decide +kernel
theorem dX5_isSymmetric_7 : decode cX5_isSymmetric 7 = .ok (.if_icmp .ge 30, 3) := by decide +kernel
theorem dX5_isSymmetric_10 : decode cX5_isSymmetric 10 = .ok (.aload_n 0, 1) := by decide +kernel
theorem dX5_isSymmetric_11 : decode cX5_isSymmetric 11 = .ok (.aload_n 0, 1) := by decide +kernel
theorem dX5_isSymmetric_12 : decode cX5_isSymmetric 12 = .ok (.getfield 22, 3) := by decide +kernel
theorem dX5_isSymmetric_15 : decode cX5_isSymmetric 15 = .ok (.iload_n 1, 1) := by decide +kernel
theorem dX5_isSymmetric_16 : decode cX5_isSymmetric 16 = .ok (.iaload, 1) := by decide +kernel
theorem dX5_isSymmetric_17 : decode cX5_isSymmetric 17 = .ok (.aload_n 0, 1) := by decide +kernel
theorem dX5_isSymmetric_18 : decode cX5_isSymmetric 18 = .ok (.getfield 18, 3) := by decide +kernel
theorem dX5_isSymmetric_21 : decode cX5_isSymmetric 21 = .ok (.iload_n 1, 1) := by decide +kernel
theorem dX5_isSymmetric_22 : decode cX5_isSymmetric 22 = .ok (.iaload, 1) := by decide +kernel
theorem dX5_isSymmetric_23 : decode cX5_isSymmetric 23 = .ok (.invokevirtual 37, 3) := by decide +kernel
theorem dX5_isSymmetric_26 : decode cX5_isSymmetric 26 = .ok (.ifCond .ne 5, 3) := by decide +kernel
theorem dX5_isSymmetric_29 : decode cX5_isSymmetric 29 = .ok (.iconst 0, 1) := by decide +kernel
theorem dX5_isSymmetric_30 : decode cX5_isSymmetric 30 = .ok (.ireturn, 1) := by decide +kernel
theorem dX5_isSymmetric_31 : decode cX5_isSymmetric 31 = .ok (.iinc 1 1, 3) := by decide +kernel
theorem dX5_isSymmetric_34 : decode cX5_isSymmetric 34 = .ok (.goto (-32), 3) := by decide +kernel
theorem dX5_isSymmetric_37 : decode cX5_isSymmetric 37 = .ok (.iconst 1, 1) := by decide +kernel
theorem dX5_isSymmetric_38 : decode cX5_isSymmetric 38 = .ok (.ireturn, 1) := by decide +kernel
theorem dX5_mirror_0 : decode cX5_mirror 0 = .ok (.iconst 0, 1) := by decide +kernel
theorem dX5_mirror_1 : decode cX5_mirror 1 = .ok (.istore_n 1, 1) := by decide +kernel
theorem dX5_mirror_2 : decode cX5_mirror 2 = .ok (.iload_n 1, 1) := by decide +kernel
theorem dX5_mirror_3 : decode cX5_mirror 3 = .ok (.aload_n 0, 1) := by decide +kernel
theorem dX5_mirror_4 : decode cX5_mirror 4 = .ok (.getfield 15, 3) := by decide +kernel
theorem dX5_mirror_7 : decode cX5_mirror 7 = .ok (.if_icmp .ge 35, 3) := by decide +kernel
theorem dX5_mirror_10 : decode cX5_mirror 10 = .ok (.aload_n 0, 1) := by decide +kernel
theorem dX5_mirror_11 : decode cX5_mirror 11 = .ok (.getfield 18, 3) := by decide +kernel
theorem dX5_mirror_14 : decode cX5_mirror 14 = .ok (.iload_n 1, 1) := by decide +kernel
theorem dX5_mirror_15 : decode cX5_mirror 15 = .ok (.iaload, 1) := by decide +kernel
theorem dX5_mirror_16 : decode cX5_mirror 16 = .ok (.istore_n 2, 1) := by decide +kernel
theorem dX5_mirror_17 : decode cX5_mirror 17 = .ok (.aload_n 0, 1) := by decide +kernel
theorem dX5_mirror_18 : decode cX5_mirror 18 = .ok (.getfield 18, 3) := by decide +kernel
theorem dX5_mirror_21 : decode cX5_mirror 21 = .ok (.iload_n 1, 1) := by decide +kernel
theorem dX5_mirror_22 : decode cX5_mirror 22 = .ok (.aload_n 0, 1) := by decide +kernel
theorem dX5_mirror_23 : decode cX5_mirror 23 = .ok (.getfield 22, 3) := by decide +kernel
theorem dX5_mirror_26 : decode cX5_mirror 26 = .ok (.iload_n 1, 1) := by decide +kernel
theorem dX5_mirror_27 : decode cX5_mirror 27 = .ok (.iaload, 1) := by decide +kernel
theorem dX5_mirror_28 : decode cX5_mirror 28 = .ok (.iastore, 1) := by decide +kernel
theorem dX5_mirror_29 : decode cX5_mirror 29 = .ok (.aload_n 0, 1) := by decide +kernel
theorem dX5_mirror_30 : decode cX5_mirror 30 = .ok (.getfield 22, 3) := by decide +kernel
theorem dX5_mirror_33 : decode cX5_mirror 33 = .ok (.iload_n 1, 1) := by decide +kernel
theorem dX5_mirror_34 : decode cX5_mirror 34 = .ok (.iload_n 2, 1) := by decide +kernel
theorem dX5_mirror_35 : decode cX5_mirror 35 = .ok (.iastore, 1) := by decide +kernel
theorem dX5_mirror_36 : decode cX5_mirror 36 = .ok (.iinc 1 1, 3) := by decide +kernel
theorem dX5_mirror_39 : decode cX5_mirror 39 = .ok (.goto (-37), 3) := by decide +kernel
theorem dX5_mirror_42 : decode cX5_mirror 42 = .ok (.return_, 1) := by decide +kernel
theorem dX5_transform_0 : decode cX5_transform 0 = .ok (.iconst 0, 1) := by decide +kernel
theorem dX5_transform_1 : decode cX5_transform 1 = .ok (.istore 5, 2) := by decide +kernel
theorem dX5_transform_3 : decode cX5_transform 3 = .ok (.iload 5, 2) := by decide +kernel
theorem dX5_transform_5 : decode cX5_transform 5 = .ok (.aload_n 0, 1) := by decide +kernel
theorem dX5_transform_6 : decode cX5_transform 6 = .ok (.getfield 15, 3) := by decide +kernel
theorem dX5_transform_9 : decode cX5_transform 9 = .ok (.if_icmp .ge 56, 3) := by decide +kernel
theorem dX5_transform_12 : decode cX5_transform 12 = .ok (.aload_n 0, 1) := by decide +kernel
theorem dX5_transform_13 : decode cX5_transform 13 = .ok (.getfield 18, 3) := by decide +kernel
theorem dX5_transform_16 : decode cX5_transform 16 = .ok (.iload 5, 2) := by decide +kernel
theorem dX5_transform_18 : decode cX5_transform 18 = .ok (.iload_n 1, 1) := by decide +kernel
theorem dX5_transform_19 : decode cX5_transform 19 = .ok (.aload_n 0, 1) := by decide +kernel
theorem dX5_transform_20 : decode cX5_transform 20 = .ok (.getfield 18, 3) := by decide +kernel
theorem dX5_transform_23 : decode cX5_transform 23 = .ok (.iload 5, 2) := by decide +kernel
theorem dX5_transform_25 : decode cX5_transform 25 = .ok (.iaload, 1) := by decide +kernel
theorem dX5_transform_26 : decode cX5_transform 26 = .ok (.imul, 1) := by decide +kernel
theorem dX5_transform_27 : decode cX5_transform 27 = .ok (.iload_n 2, 1) := by decide +kernel
theorem dX5_transform_28 : decode cX5_transform 28 = .ok (.iadd, 1) := by decide +kernel
theorem dX5_transform_29 : decode cX5_transform 29 = .ok (.aload_n 0, 1) := by decide +kernel
theorem dX5_transform_30 : decode cX5_transform 30 = .ok (.getfield 9, 3) := by decide +kernel
theorem dX5_transform_33 : decode cX5_transform 33 = .ok (.irem, 1) := by decide +kernel
theorem dX5_transform_34 : decode cX5_transform 34 = .ok (.iastore, 1) := by decide +kernel
theorem dX5_transform_35 : decode cX5_transform 35 = .ok (.aload_n 0, 1) := by decide +kernel
theorem dX5_transform_36 : decode cX5_transform 36 = .ok (.getfield 22, 3) := by decide +kernel
theorem dX5_transform_39 : decode cX5_transform 39 = .ok (.iload 5, 2) := by decide +kernel
theorem dX5_transform_41 : decode cX5_transform 41 = .ok (.iload_n 3, 1) := by decide +kernel
theorem dX5_transform_42 : decode cX5_transform 42 = .ok (.aload_n 0, 1) := by decide +kernel
theorem dX5_transform_43 : decode cX5_transform 43 = .ok (.getfield 22, 3) := by decide +kernel
theorem dX5_transform_46 : decode cX5_transform 46 = .ok (.iload 5, 2) := by decide +kernel
theorem dX5_transform_48 : decode cX5_transform 48 = .ok (.iaload, 1) := by decide +kernel
theorem dX5_transform_49 : decode cX5_transform 49 = .ok (.imul, 1) := by decide +kernel
theorem dX5_transform_50 : decode cX5_transform 50 = .ok (.iload 4, 2) := by decide +kernel
theorem dX5_transform_52 : decode cX5_transform 52 = .ok (.iadd, 1) := by decide +kernel
theorem dX5_transform_53 : decode cX5_transform 53 = .ok (.aload_n 0, 1) := by decide +kernel
theorem dX5_transform_54 : decode cX5_transform 54 = .ok (.getfield 9, 3) := by decide +kernel
theorem dX5_transform_57 : decode cX5_transform 57 = .ok (.irem, 1) := by decide +kernel
theorem dX5_transform_58 : decode cX5_transform 58 = .ok (.iastore, 1) := by decide +kernel
theorem dX5_transform_59 : decode cX5_transform 59 = .ok (.iinc 5 1, 3) := by decide +kernel
theorem dX5_transform_62 : decode cX5_transform 62 = .ok (.goto (-59), 3) := by decide +kernel
theorem dX5_transform_65 : decode cX5_transform 65 = .ok (.return_, 1) := by decide +kernel
theorem dX5_monomialAt_0 : decode cX5_monomialAt 0 = .ok (.aload_n 0, 1) := by decide +kernel
theorem dX5_monomialAt_1 : decode cX5_monomialAt 1 = .ok (.aload_n 0, 1) := by decide +kernel
theorem dX5_monomialAt_2 : decode cX5_monomialAt 2 = .ok (.getfield 18, 3) := by decide +kernel
theorem dX5_monomialAt_5 : decode cX5_monomialAt 5 = .ok (.iload_n 2, 1) := by decide +kernel
theorem dX5_monomialAt_6 : decode cX5_monomialAt 6 = .ok (.iaload, 1) := by decide +kernel
theorem dX5_monomialAt_7 : decode cX5_monomialAt 7 = .ok (.iload_n 1, 1) := by decide +kernel
theorem dX5_monomialAt_8 : decode cX5_monomialAt 8 = .ok (.bipush 9, 2) := by decide +kernel
theorem dX5_monomialAt_10 : decode cX5_monomialAt 10 = .ok (.idiv, 1) := by decide +kernel
theorem dX5_monomialAt_11 : decode cX5_monomialAt 11 = .ok (.invokevirtual 41, 3) := by decide +kernel
theorem dX5_monomialAt_14 : decode cX5_monomialAt 14 = .ok (.aload_n 0, 1) := by decide +kernel
theorem dX5_monomialAt_15 : decode cX5_monomialAt 15 = .ok (.aload_n 0, 1) := by decide +kernel
theorem dX5_monomialAt_16 : decode cX5_monomialAt 16 = .ok (.getfield 22, 3) := by decide +kernel
theorem dX5_monomialAt_19 : decode cX5_monomialAt 19 = .ok (.iload_n 2, 1) := by decide +kernel
theorem dX5_monomialAt_20 : decode cX5_monomialAt 20 = .ok (.iaload, 1) := by decide +kernel
theorem dX5_monomialAt_21 : decode cX5_monomialAt 21 = .ok (.iload_n 1, 1) := by decide +kernel
theorem dX5_monomialAt_22 : decode cX5_monomialAt 22 = .ok (.bipush 9, 2) := by decide +kernel
theorem dX5_monomialAt_24 : decode cX5_monomialAt 24 = .ok (.irem, 1) := by decide +kernel
theorem dX5_monomialAt_25 : decode cX5_monomialAt 25 = .ok (.invokevirtual 41, 3) := by decide +kernel
theorem dX5_monomialAt_28 : decode cX5_monomialAt 28 = .ok (.imul, 1) := by decide +kernel
theorem dX5_monomialAt_29 : decode cX5_monomialAt 29 = .ok (.aload_n 0, 1) := by decide +kernel
theorem dX5_monomialAt_30 : decode cX5_monomialAt 30 = .ok (.getfield 9, 3) := by decide +kernel
theorem dX5_monomialAt_33 : decode cX5_monomialAt 33 = .ok (.irem, 1) := by decide +kernel
theorem dX5_monomialAt_34 : decode cX5_monomialAt 34 = .ok (.ireturn, 1) := by decide +kernel
theorem dX5_power_0 : decode cX5_power 0 = .ok (.iconst 1, 1) := by decide +kernel
theorem dX5_power_1 : decode cX5_power 1 = .ok (.istore_n 3, 1) := by decide +kernel
theorem dX5_power_2 : decode cX5_power 2 = .ok (.iconst 0, 1) := by decide +kernel
theorem dX5_power_3 : decode cX5_power 3 = .ok (.istore 4, 2) := by decide +kernel
theorem dX5_power_5 : decode cX5_power 5 = .ok (.iload 4, 2) := by decide +kernel
theorem dX5_power_7 : decode cX5_power 7 = .ok (.iload_n 2, 1) := by decide +kernel
theorem dX5_power_8 : decode cX5_power 8 = .ok (.if_icmp .ge 18, 3) := by decide +kernel
theorem dX5_power_11 : decode cX5_power 11 = .ok (.iload_n 3, 1) := by decide +kernel
theorem dX5_power_12 : decode cX5_power 12 = .ok (.iload_n 1, 1) := by decide +kernel
theorem dX5_power_13 : decode cX5_power 13 = .ok (.imul, 1) := by decide +kernel
theorem dX5_power_14 : decode cX5_power 14 = .ok (.aload_n 0, 1) := by decide +kernel
theorem dX5_power_15 : decode cX5_power 15 = .ok (.getfield 9, 3) := by decide +kernel
theorem dX5_power_18 : decode cX5_power 18 = .ok (.irem, 1) := by decide +kernel
theorem dX5_power_19 : decode cX5_power 19 = .ok (.istore_n 3, 1) := by decide +kernel
theorem dX5_power_20 : decode cX5_power 20 = .ok (.iinc 4 1, 3) := by decide +kernel
theorem dX5_power_23 : decode cX5_power 23 = .ok (.goto (-18), 3) := by decide +kernel
theorem dX5_power_26 : decode cX5_power 26 = .ok (.iload_n 3, 1) := by decide +kernel
theorem dX5_power_27 : decode cX5_power 27 = .ok (.ireturn, 1) := by decide +kernel
theorem dX6_init_0 : decode cX6_init 0 = .ok (.aload_n 0, 1) := by decide +kernel
theorem dX6_init_1 : decode cX6_init 1 = .ok (.invokespecial 3, 3) := by decide +kernel
theorem dX6_init_4 : decode cX6_init 4 = .ok (.aload_n 0, 1) := by decide +kernel
theorem dX6_init_5 : decode cX6_init 5 = .ok (.bipush 81, 2) := by decide +kernel
theorem dX6_init_7 : decode cX6_init 7 = .ok (.newarray .int, 2) := by decide +kernel
theorem dX6_init_9 : decode cX6_init 9 = .ok (.putfield 9, 3) := by decide +kernel
theorem dX6_init_12 : decode cX6_init 12 = .ok (.return_, 1) := by decide +kernel
theorem dX6_clear_0 : decode cX6_clear 0 = .ok (.aload_n 0, 1) := by decide +kernel
theorem dX6_clear_1 : decode cX6_clear 1 = .ok (.getfield 9, 3) := by decide +kernel
theorem dX6_clear_4 : decode cX6_clear 4 = .ok (.iconst 0, 1) := by decide +kernel
theorem dX6_clear_5 : decode cX6_clear 5 = .ok (.invokestatic 15, 3) := by decide +kernel
theorem dX6_clear_8 : decode cX6_clear 8 = .ok (.return_, 1) := by decide +kernel
theorem dX6_copyFrom_0 : decode cX6_copyFrom 0 = .ok (.aload_n 1, 1) := by decide +kernel
theorem dX6_copyFrom_1 : decode cX6_copyFrom 1 = .ok (.getfield 9, 3) := by decide +kernel
theorem dX6_copyFrom_4 : decode cX6_copyFrom 4 = .ok (.iconst 0, 1) := by decide +kernel
theorem dX6_copyFrom_5 : decode cX6_copyFrom 5 = .ok (.aload_n 0, 1) := by decide +kernel
theorem dX6_copyFrom_6 : decode cX6_copyFrom 6 = .ok (.getfield 9, 3) := by decide +kernel
theorem dX6_copyFrom_9 : decode cX6_copyFrom 9 = .ok (.iconst 0, 1) := by decide +kernel
theorem dX6_copyFrom_10 : decode cX6_copyFrom 10 = .ok (.bipush 81, 2) := by decide +kernel
theorem dX6_copyFrom_12 : decode cX6_copyFrom 12 = .ok (.invokestatic 21, 3) := by decide +kernel
theorem dX6_copyFrom_15 : decode cX6_copyFrom 15 = .ok (.return_, 1) := by decide +kernel
theorem dX6_countTerms_0 : decode cX6_countTerms 0 = .ok (.iconst 0, 1) := by decide +kernel
theorem dX6_countTerms_1 : decode cX6_countTerms 1 = .ok (.istore_n 1, 1) := by decide +kernel
theorem dX6_countTerms_2 : decode cX6_countTerms 2 = .ok (.aload_n 0, 1) := by decide +kernel
theorem dX6_countTerms_3 : decode cX6_countTerms 3 = .ok (.getfield 9, 3) := by decide +kernel
theorem dX6_countTerms_6 : decode cX6_countTerms 6 = .ok (.astore_n 2, 1) := by decide +kernel
theorem dX6_countTerms_7 : decode cX6_countTerms 7 = .ok (.aload_n 2, 1) := by decide +kernel
theorem dX6_countTerms_8 : decode cX6_countTerms 8 = .ok (.arraylength, 1) := by decide +kernel
theorem dX6_countTerms_9 : decode cX6_countTerms 9 = .ok (.istore_n 3, 1) := by decide +kernel
theorem dX6_countTerms_10 : decode cX6_countTerms 10 = .ok (.iconst 0, 1) := by decide +kernel
theorem dX6_countTerms_11 : decode cX6_countTerms 11 = .ok (.istore 4, 2) := by decide +kernel
theorem dX6_countTerms_13 : decode cX6_countTerms 13 = .ok (.iload 4, 2) := by decide +kernel
theorem dX6_countTerms_15 : decode cX6_countTerms 15 = .ok (.iload_n 3, 1) := by decide +kernel
theorem dX6_countTerms_16 : decode cX6_countTerms 16 = .ok (.if_icmp .ge 23, 3) := by decide +kernel
theorem dX6_countTerms_19 : decode cX6_countTerms 19 = .ok (.aload_n 2, 1) := by decide +kernel
theorem dX6_countTerms_20 : decode cX6_countTerms 20 = .ok (.iload 4, 2) := by decide +kernel
theorem dX6_countTerms_22 : decode cX6_countTerms 22 = .ok (.iaload, 1) := by decide +kernel
theorem dX6_countTerms_23 : decode cX6_countTerms 23 = .ok (.istore 5, 2) := by decide +kernel
theorem dX6_countTerms_25 : decode cX6_countTerms 25 = .ok (.iload 5, 2) := by decide +kernel
theorem dX6_countTerms_27 : decode cX6_countTerms 27 = .ok (.ifCond .eq 6, 3) := by decide +kernel
theorem dX6_countTerms_30 : decode cX6_countTerms 30 = .ok (.iinc 1 1, 3) := by decide +kernel
theorem dX6_countTerms_33 : decode cX6_countTerms 33 = .ok (.iinc 4 1, 3) := by decide +kernel
theorem dX6_countTerms_36 : decode cX6_countTerms 36 = .ok (.goto (-23), 3) := by decide +kernel
theorem dX6_countTerms_39 : decode cX6_countTerms 39 = .ok (.iload_n 1, 1) := by decide +kernel
theorem dX6_countTerms_40 : decode cX6_countTerms 40 = .ok (.ireturn, 1) := by decide +kernel
theorem dX6_valueAt_0 : decode cX6_valueAt 0 = .ok (.iconst 0, 1) := by decide +kernel
theorem dX6_valueAt_1 : decode cX6_valueAt 1 = .ok (.istore_n 3, 1) := by decide +kernel
theorem dX6_valueAt_2 : decode cX6_valueAt 2 = .ok (.bipush 8, 2) := by decide +kernel
theorem dX6_valueAt_4 : decode cX6_valueAt 4 = .ok (.istore 4, 2) := by decide +kernel
theorem dX6_valueAt_6 : decode cX6_valueAt 6 = .ok (.iload 4, 2) := by decide +kernel
theorem dX6_valueAt_8 : decode cX6_valueAt 8 = .ok (.ifCond .lt 74, 3) := by decide +kernel
theorem dX6_valueAt_11 : decode cX6_valueAt 11 = .ok (.iconst 0, 1) := by decide +kernel
theorem dX6_valueAt_12 : decode cX6_valueAt 12 = .ok (.istore 5, 2) := by decide +kernel
theorem dX6_valueAt_14 : decode cX6_valueAt 14 = .ok (.bipush 8, 2) := by decide +kernel
theorem dX6_valueAt_16 : decode cX6_valueAt 16 = .ok (.istore 6, 2) := by decide +kernel
theorem dX6_valueAt_18 : decode cX6_valueAt 18 = .ok (.iload 6, 2) := by decide +kernel
theorem dX6_valueAt_20 : decode cX6_valueAt 20 = .ok (.ifCond .lt 39, 3) := by decide +kernel
theorem dX6_valueAt_23 : decode cX6_valueAt 23 = .ok (.iload 5, 2) := by decide +kernel
theorem dX6_valueAt_25 : decode cX6_valueAt 25 = .ok (.aload_n 1, 1) := by decide +kernel
theorem dX6_valueAt_26 : decode cX6_valueAt 26 = .ok (.getfield 27, 3) := by decide +kernel
theorem dX6_valueAt_29 : decode cX6_valueAt 29 = .ok (.iload_n 2, 1) := by decide +kernel
theorem dX6_valueAt_30 : decode cX6_valueAt 30 = .ok (.iaload, 1) := by decide +kernel
theorem dX6_valueAt_31 : decode cX6_valueAt 31 = .ok (.imul, 1) := by decide +kernel
theorem dX6_valueAt_32 : decode cX6_valueAt 32 = .ok (.aload_n 0, 1) := by decide +kernel
theorem dX6_valueAt_33 : decode cX6_valueAt 33 = .ok (.getfield 9, 3) := by decide +kernel
theorem dX6_valueAt_36 : decode cX6_valueAt 36 = .ok (.bipush 9, 2) := by decide +kernel
theorem dX6_valueAt_38 : decode cX6_valueAt 38 = .ok (.iload 4, 2) := by decide +kernel
theorem dX6_valueAt_40 : decode cX6_valueAt 40 = .ok (.imul, 1) := by decide +kernel
theorem dX6_valueAt_41 : decode cX6_valueAt 41 = .ok (.iload 6, 2) := by decide +kernel
theorem dX6_valueAt_43 : decode cX6_valueAt 43 = .ok (.iadd, 1) := by decide +kernel
theorem dX6_valueAt_44 : decode cX6_valueAt 44 = .ok (.iaload, 1) := by decide +kernel
theorem dX6_valueAt_45 : decode cX6_valueAt 45 = .ok (.iadd, 1) := by decide +kernel
theorem dX6_valueAt_46 : decode cX6_valueAt 46 = .ok (.aload_n 1, 1) := by decide +kernel
theorem dX6_valueAt_47 : decode cX6_valueAt 47 = .ok (.getfield 32, 3) := by decide +kernel
theorem dX6_valueAt_50 : decode cX6_valueAt 50 = .ok (.irem, 1) := by decide +kernel
theorem dX6_valueAt_51 : decode cX6_valueAt 51 = .ok (.istore 5, 2) := by decide +kernel
theorem dX6_valueAt_53 : decode cX6_valueAt 53 = .ok (.iinc 6 (-1), 3) := by decide +kernel
theorem dX6_valueAt_56 : decode cX6_valueAt 56 = .ok (.goto (-38), 3) := by decide +kernel
theorem dX6_valueAt_59 : decode cX6_valueAt 59 = .ok (.iload_n 3, 1) := by decide +kernel
theorem dX6_valueAt_60 : decode cX6_valueAt 60 = .ok (.aload_n 1, 1) := by decide +kernel
theorem dX6_valueAt_61 : decode cX6_valueAt 61 = .ok (.getfield 36, 3) := by decide +kernel
theorem dX6_valueAt_64 : decode cX6_valueAt 64 = .ok (.iload_n 2, 1) := by decide +kernel
theorem dX6_valueAt_65 : decode cX6_valueAt 65 = .ok (.iaload, 1) := by decide +kernel
theorem dX6_valueAt_66 : decode cX6_valueAt 66 = .ok (.imul, 1) := by decide +kernel
theorem dX6_valueAt_67 : decode cX6_valueAt 67 = .ok (.iload 5, 2) := by decide +kernel
theorem dX6_valueAt_69 : decode cX6_valueAt 69 = .ok (.iadd, 1) := by decide +kernel
theorem dX6_valueAt_70 : decode cX6_valueAt 70 = .ok (.aload_n 1, 1) := by decide +kernel
theorem dX6_valueAt_71 : decode cX6_valueAt 71 = .ok (.getfield 32, 3) := by decide +kernel
theorem dX6_valueAt_74 : decode cX6_valueAt 74 = .ok (.irem, 1) := by decide +kernel
theorem dX6_valueAt_75 : decode cX6_valueAt 75 = .ok (.istore_n 3, 1) := by decide +kernel
theorem dX6_valueAt_76 : decode cX6_valueAt 76 = .ok (.iinc 4 (-1), 3) := by decide +kernel
theorem dX6_valueAt_79 : decode cX6_valueAt 79 = .ok (.goto (-73), 3) := by decide +kernel
theorem dX6_valueAt_82 : decode cX6_valueAt 82 = .ok (.iload_n 3, 1) := by decide +kernel
theorem dX6_valueAt_83 : decode cX6_valueAt 83 = .ok (.ireturn, 1) := by decide +kernel
theorem dX7_init_0 : decode cX7_init 0 = .ok (.aload_n 0, 1) := by decide +kernel
theorem dX7_init_1 : decode cX7_init 1 = .ok (.invokespecial 3, 3) := by decide +kernel
theorem dX7_init_4 : decode cX7_init 4 = .ok (.aload_n 0, 1) := by decide +kernel
theorem dX7_init_5 : decode cX7_init 5 = .ok (.bipush 9, 2) := by decide +kernel
theorem dX7_init_7 : decode cX7_init 7 = .ok (.newarray .int, 2) := by decide +kernel
theorem dX7_init_9 : decode cX7_init 9 = .ok (.putfield 9, 3) := by decide +kernel
theorem dX7_init_12 : decode cX7_init 12 = .ok (.aload_n 0, 1) := by decide +kernel
theorem dX7_init_13 : decode cX7_init 13 = .ok (.iconst 0, 1) := by decide +kernel
theorem dX7_init_14 : decode cX7_init 14 = .ok (.putfield 15, 3) := by decide +kernel
theorem dX7_init_17 : decode cX7_init 17 = .ok (.aload_n 0, 1) := by decide +kernel
theorem dX7_init_18 : decode cX7_init 18 = .ok (.iconst 4, 1) := by decide +kernel
theorem dX7_init_19 : decode cX7_init 19 = .ok (.anewarray 19, 3) := by decide +kernel
theorem dX7_init_22 : decode cX7_init 22 = .ok (.putfield 21, 3) := by decide +kernel
theorem dX7_init_25 : decode cX7_init 25 = .ok (.aload_n 0, 1) := by decide +kernel
theorem dX7_init_26 : decode cX7_init 26 = .ok (.iconst 0, 1) := by decide +kernel
theorem dX7_init_27 : decode cX7_init 27 = .ok (.putfield 25, 3) := by decide +kernel
theorem dX7_init_30 : decode cX7_init 30 = .ok (.aload_n 0, 1) := by decide +kernel
theorem dX7_init_31 : decode cX7_init 31 = .ok (.iconst 0, 1) := by decide +kernel
theorem dX7_init_32 : decode cX7_init 32 = .ok (.putfield 28, 3) := by decide +kernel
theorem dX7_init_35 : decode cX7_init 35 = .ok (.iconst 0, 1) := by decide +kernel
theorem dX7_init_36 : decode cX7_init 36 = .ok (.istore_n 1, 1) := by decide +kernel
theorem dX7_init_37 : decode cX7_init 37 = .ok (.iload_n 1, 1) := by decide +kernel
theorem dX7_init_38 : decode cX7_init 38 = .ok (.iconst 4, 1) := by decide +kernel
theorem dX7_init_39 : decode cX7_init 39 = .ok (.if_icmp .ge 22, 3) := by decide +kernel
theorem dX7_init_42 : decode cX7_init 42 = .ok (.aload_n 0, 1) := by decide +kernel
theorem dX7_init_43 : decode cX7_init 43 = .ok (.getfield 21, 3) := by decide +kernel
theorem dX7_init_46 : decode cX7_init 46 = .ok (.iload_n 1, 1) := by decide +kernel
theorem dX7_init_47 : decode cX7_init 47 = .ok (.new 19, 3) := by decide +kernel
theorem dX7_init_50 : decode cX7_init 50 = .ok (.dup, 1) := by decide +kernel
theorem dX7_init_51 : decode cX7_init 51 = .ok (.invokespecial 31, 3) := by decide +kernel
theorem dX7_init_54 : decode cX7_init 54 = .ok (.aastore, 1) := by decide +kernel
theorem dX7_init_55 : decode cX7_init 55 = .ok (.iinc 1 1, 3) := by decide +kernel
theorem dX7_init_58 : decode cX7_init 58 = .ok (.goto (-21), 3) := by decide +kernel
theorem dX7_init_61 : decode cX7_init 61 = .ok (.return_, 1) := by decide +kernel
theorem dX7_find_0 : decode cX7_find 0 = .ok (.iload_n 1, 1) := by decide +kernel
theorem dX7_find_1 : decode cX7_find 1 = .ok (.ifCond .lt 20, 3) := by decide +kernel
theorem dX7_find_4 : decode cX7_find 4 = .ok (.iload_n 1, 1) := by decide +kernel
theorem dX7_find_5 : decode cX7_find 5 = .ok (.aload_n 0, 1) := by decide +kernel
theorem dX7_find_6 : decode cX7_find 6 = .ok (.getfield 15, 3) := by decide +kernel
theorem dX7_find_9 : decode cX7_find 9 = .ok (.if_icmp .ge 12, 3) := by decide +kernel
theorem dX7_find_12 : decode cX7_find 12 = .ok (.aload_n 0, 1) := by decide +kernel
theorem dX7_find_13 : decode cX7_find 13 = .ok (.getfield 21, 3) := by decide +kernel
theorem dX7_find_16 : decode cX7_find 16 = .ok (.iload_n 1, 1) := by decide +kernel
theorem dX7_find_17 : decode cX7_find 17 = .ok (.aaload, 1) := by decide +kernel
theorem dX7_find_18 : decode cX7_find 18 = .ok (.goto 4, 3) := by decide +kernel
theorem dX7_find_21 : decode cX7_find 21 = .ok (.aconst_null, 1) := by decide +kernel
theorem dX7_find_22 : decode cX7_find 22 = .ok (.areturn, 1) := by decide +kernel
theorem dX7_compute_0 : decode cX7_compute 0 = .ok (.aload_n 0, 1) := by decide +kernel
theorem dX7_compute_1 : decode cX7_compute 1 = .ok (.getfield 9, 3) := by decide +kernel
theorem dX7_compute_4 : decode cX7_compute 4 = .ok (.iconst 0, 1) := by decide +kernel
theorem dX7_compute_5 : decode cX7_compute 5 = .ok (.invokestatic 32, 3) := by decide +kernel
theorem dX7_compute_8 : decode cX7_compute 8 = .ok (.aload_n 0, 1) := by decide +kernel
theorem dX7_compute_9 : decode cX7_compute 9 = .ok (.iconst 0, 1) := by decide +kernel
theorem dX7_compute_10 : decode cX7_compute 10 = .ok (.putfield 15, 3) := by decide +kernel
theorem dX7_compute_13 : decode cX7_compute 13 = .ok (.aload_n 2, 1) := by decide +kernel
theorem dX7_compute_14 : decode cX7_compute 14 = .ok (.invokevirtual 38, 3) := by decide +kernel
theorem dX7_compute_17 : decode cX7_compute 17 = .ok (.iconst 0, 1) := by decide +kernel
theorem dX7_compute_18 : decode cX7_compute 18 = .ok (.istore_n 3, 1) := by decide +kernel
theorem dX7_compute_19 : decode cX7_compute 19 = .ok (.iload_n 3, 1) := by decide +kernel
theorem dX7_compute_20 : decode cX7_compute 20 = .ok (.bipush 12, 2) := by decide +kernel
theorem dX7_compute_22 : decode cX7_compute 22 = .ok (.if_icmp .ge 63, 3) := by decide +kernel
theorem dX7_compute_25 : decode cX7_compute 25 = .ok (.aload_n 0, 1) := by decide +kernel
theorem dX7_compute_26 : decode cX7_compute 26 = .ok (.aload_n 1, 1) := by decide +kernel
theorem dX7_compute_27 : decode cX7_compute 27 = .ok (.invokevirtual 43, 3) := by decide +kernel
theorem dX7_compute_30 : decode cX7_compute 30 = .ok (.istore 4, 2) := by decide +kernel
theorem dX7_compute_32 : decode cX7_compute 32 = .ok (.iload 4, 2) := by decide +kernel
theorem dX7_compute_34 : decode cX7_compute 34 = .ok (.iconst (-1), 1) := by decide +kernel
theorem dX7_compute_35 : decode cX7_compute 35 = .ok (.if_icmp .ne 6, 3) := by decide +kernel
theorem dX7_compute_38 : decode cX7_compute 38 = .ok (.goto 47, 3) := by decide +kernel
theorem dX7_compute_41 : decode cX7_compute 41 = .ok (.aload_n 0, 1) := by decide +kernel
theorem dX7_compute_42 : decode cX7_compute 42 = .ok (.iload 4, 2) := by decide +kernel
theorem dX7_compute_44 : decode cX7_compute 44 = .ok (.invokevirtual 47, 3) := by decide +kernel
theorem dX7_compute_47 : decode cX7_compute 47 = .ok (.istore 5, 2) := by decide +kernel
theorem dX7_compute_49 : decode cX7_compute 49 = .ok (.aload_n 2, 1) := by decide +kernel
theorem dX7_compute_50 : decode cX7_compute 50 = .ok (.iload 5, 2) := by decide +kernel
theorem dX7_compute_52 : decode cX7_compute 52 = .ok (.invokevirtual 51, 3) := by decide +kernel
theorem dX7_compute_55 : decode cX7_compute 55 = .ok (.ifCond .eq 17, 3) := by decide +kernel
theorem dX7_compute_58 : decode cX7_compute 58 = .ok (.aload_n 0, 1) := by decide +kernel
theorem dX7_compute_59 : decode cX7_compute 59 = .ok (.getfield 9, 3) := by decide +kernel
theorem dX7_compute_62 : decode cX7_compute 62 = .ok (.iload 4, 2) := by decide +kernel
theorem dX7_compute_64 : decode cX7_compute 64 = .ok (.dup2, 1) := by decide +kernel
theorem dX7_compute_65 : decode cX7_compute 65 = .ok (.iaload, 1) := by decide +kernel
theorem dX7_compute_66 : decode cX7_compute 66 = .ok (.iconst 1, 1) := by decide +kernel
theorem dX7_compute_67 : decode cX7_compute 67 = .ok (.iadd, 1) := by decide +kernel
theorem dX7_compute_68 : decode cX7_compute 68 = .ok (.iastore, 1) := by decide +kernel
theorem dX7_compute_69 : decode cX7_compute 69 = .ok (.goto 10, 3) := by decide +kernel
theorem dX7_compute_72 : decode cX7_compute 72 = .ok (.aload_n 0, 1) := by decide +kernel
theorem dX7_compute_73 : decode cX7_compute 73 = .ok (.iload 5, 2) := by decide +kernel
theorem dX7_compute_75 : decode cX7_compute 75 = .ok (.aload_n 2, 1) := by decide +kernel
theorem dX7_compute_76 : decode cX7_compute 76 = .ok (.invokevirtual 55, 3) := by decide +kernel
theorem dX7_compute_79 : decode cX7_compute 79 = .ok (.iinc 3 1, 3) := by decide +kernel
theorem dX7_compute_82 : decode cX7_compute 82 = .ok (.goto (-63), 3) := by decide +kernel
theorem dX7_compute_85 : decode cX7_compute 85 = .ok (.aload_n 0, 1) := by decide +kernel
theorem dX7_compute_86 : decode cX7_compute 86 = .ok (.invokevirtual 59, 3) := by decide +kernel
theorem dX7_compute_89 : decode cX7_compute 89 = .ok (.return_, 1) := by decide +kernel
theorem dX7_topOf_0 : decode cX7_topOf 0 = .ok (.bipush 9, 2) := by decide +kernel
theorem dX7_topOf_2 : decode cX7_topOf 2 = .ok (.iload_n 1, 1) := by decide +kernel
theorem dX7_topOf_3 : decode cX7_topOf 3 = .ok (.imul, 1) := by decide +kernel
theorem dX7_topOf_4 : decode cX7_topOf 4 = .ok (.aload_n 0, 1) := by decide +kernel
theorem dX7_topOf_5 : decode cX7_topOf 5 = .ok (.getfield 9, 3) := by decide +kernel
theorem dX7_topOf_8 : decode cX7_topOf 8 = .ok (.iload_n 1, 1) := by decide +kernel
theorem dX7_topOf_9 : decode cX7_topOf 9 = .ok (.iaload, 1) := by decide +kernel
theorem dX7_topOf_10 : decode cX7_topOf 10 = .ok (.iadd, 1) := by decide +kernel
theorem dX7_topOf_11 : decode cX7_topOf 11 = .ok (.ireturn, 1) := by decide +kernel
theorem dX7_nextColumn_0 : decode cX7_nextColumn 0 = .ok (.iconst (-1), 1) := by decide +kernel
theorem dX7_nextColumn_1 : decode cX7_nextColumn 1 = .ok (.istore_n 2, 1) := by decide +kernel
theorem dX7_nextColumn_2 : decode cX7_nextColumn 2 = .ok (.iconst 0, 1) := by decide +kernel
theorem dX7_nextColumn_3 : decode cX7_nextColumn 3 = .ok (.istore_n 3, 1) := by decide +kernel
theorem dX7_nextColumn_4 : decode cX7_nextColumn 4 = .ok (.iload_n 3, 1) := by decide +kernel
theorem dX7_nextColumn_5 : decode cX7_nextColumn 5 = .ok (.bipush 9, 2) := by decide +kernel
theorem dX7_nextColumn_7 : decode cX7_nextColumn 7 = .ok (.if_icmp .ge 41, 3) := by decide +kernel
theorem dX7_nextColumn_10 : decode cX7_nextColumn 10 = .ok (.aload_n 0, 1) := by decide +kernel
theorem dX7_nextColumn_11 : decode cX7_nextColumn 11 = .ok (.iload_n 3, 1) := by decide +kernel
theorem dX7_nextColumn_12 : decode cX7_nextColumn 12 = .ok (.invokevirtual 62, 3) := by decide +kernel
theorem dX7_nextColumn_15 : decode cX7_nextColumn 15 = .ok (.ifCond .ne 27, 3) := by decide +kernel
theorem dX7_nextColumn_18 : decode cX7_nextColumn 18 = .ok (.iload_n 2, 1) := by decide +kernel
theorem dX7_nextColumn_19 : decode cX7_nextColumn 19 = .ok (.iconst (-1), 1) := by decide +kernel
theorem dX7_nextColumn_20 : decode cX7_nextColumn 20 = .ok (.if_icmp .eq 20, 3) := by decide +kernel
theorem dX7_nextColumn_23 : decode cX7_nextColumn 23 = .ok (.aload_n 1, 1) := by decide +kernel
theorem dX7_nextColumn_24 : decode cX7_nextColumn 24 = .ok (.aload_n 0, 1) := by decide +kernel
theorem dX7_nextColumn_25 : decode cX7_nextColumn 25 = .ok (.iload_n 3, 1) := by decide +kernel
theorem dX7_nextColumn_26 : decode cX7_nextColumn 26 = .ok (.invokevirtual 47, 3) := by decide +kernel
theorem dX7_nextColumn_29 : decode cX7_nextColumn 29 = .ok (.aload_n 0, 1) := by decide +kernel
theorem dX7_nextColumn_30 : decode cX7_nextColumn 30 = .ok (.iload_n 2, 1) := by decide +kernel
theorem dX7_nextColumn_31 : decode cX7_nextColumn 31 = .ok (.invokevirtual 47, 3) := by decide +kernel
theorem dX7_nextColumn_34 : decode cX7_nextColumn 34 = .ok (.invokevirtual 65, 3) := by decide +kernel
theorem dX7_nextColumn_37 : decode cX7_nextColumn 37 = .ok (.ifCond .eq 5, 3) := by decide +kernel
theorem dX7_nextColumn_40 : decode cX7_nextColumn 40 = .ok (.iload_n 3, 1) := by decide +kernel
theorem dX7_nextColumn_41 : decode cX7_nextColumn 41 = .ok (.istore_n 2, 1) := by decide +kernel
theorem dX7_nextColumn_42 : decode cX7_nextColumn 42 = .ok (.iinc 3 1, 3) := by decide +kernel
theorem dX7_nextColumn_45 : decode cX7_nextColumn 45 = .ok (.goto (-41), 3) := by decide +kernel
theorem dX7_nextColumn_48 : decode cX7_nextColumn 48 = .ok (.iload_n 2, 1) := by decide +kernel
theorem dX7_nextColumn_49 : decode cX7_nextColumn 49 = .ok (.ireturn, 1) := by decide +kernel
theorem dX7_isClosed_0 : decode cX7_isClosed 0 = .ok (.iconst 0, 1) := by decide +kernel
theorem dX7_isClosed_1 : decode cX7_isClosed 1 = .ok (.istore_n 2, 1) := by decide +kernel
theorem dX7_isClosed_2 : decode cX7_isClosed 2 = .ok (.iload_n 2, 1) := by decide +kernel
theorem dX7_isClosed_3 : decode cX7_isClosed 3 = .ok (.aload_n 0, 1) := by decide +kernel
theorem dX7_isClosed_4 : decode cX7_isClosed 4 = .ok (.getfield 15, 3) := by decide +kernel
theorem dX7_isClosed_7 : decode cX7_isClosed 7 = .ok (.if_icmp .ge 42, 3) := by decide +kernel
theorem dX7_isClosed_10 : decode cX7_isClosed 10 = .ok (.aload_n 0, 1) := by decide +kernel
theorem dX7_isClosed_11 : decode cX7_isClosed 11 = .ok (.getfield 21, 3) := by decide +kernel
theorem dX7_isClosed_14 : decode cX7_isClosed 14 = .ok (.iload_n 2, 1) := by decide +kernel
theorem dX7_isClosed_15 : decode cX7_isClosed 15 = .ok (.aaload, 1) := by decide +kernel
theorem dX7_isClosed_16 : decode cX7_isClosed 16 = .ok (.getfield 71, 3) := by decide +kernel
theorem dX7_isClosed_19 : decode cX7_isClosed 19 = .ok (.istore_n 3, 1) := by decide +kernel
theorem dX7_isClosed_20 : decode cX7_isClosed 20 = .ok (.iload_n 3, 1) := by decide +kernel
theorem dX7_isClosed_21 : decode cX7_isClosed 21 = .ok (.bipush 9, 2) := by decide +kernel
theorem dX7_isClosed_23 : decode cX7_isClosed 23 = .ok (.idiv, 1) := by decide +kernel
theorem dX7_isClosed_24 : decode cX7_isClosed 24 = .ok (.iload_n 1, 1) := by decide +kernel
theorem dX7_isClosed_25 : decode cX7_isClosed 25 = .ok (.if_icmp .gt 18, 3) := by decide +kernel
theorem dX7_isClosed_28 : decode cX7_isClosed 28 = .ok (.iload_n 3, 1) := by decide +kernel
theorem dX7_isClosed_29 : decode cX7_isClosed 29 = .ok (.bipush 9, 2) := by decide +kernel
theorem dX7_isClosed_31 : decode cX7_isClosed 31 = .ok (.irem, 1) := by decide +kernel
theorem dX7_isClosed_32 : decode cX7_isClosed 32 = .ok (.aload_n 0, 1) := by decide +kernel
theorem dX7_isClosed_33 : decode cX7_isClosed 33 = .ok (.getfield 9, 3) := by decide +kernel
theorem dX7_isClosed_36 : decode cX7_isClosed 36 = .ok (.iload_n 1, 1) := by decide +kernel
theorem dX7_isClosed_37 : decode cX7_isClosed 37 = .ok (.iaload, 1) := by decide +kernel
theorem dX7_isClosed_38 : decode cX7_isClosed 38 = .ok (.if_icmp .gt 5, 3) := by decide +kernel
theorem dX7_isClosed_41 : decode cX7_isClosed 41 = .ok (.iconst 1, 1) := by decide +kernel
theorem dX7_isClosed_42 : decode cX7_isClosed 42 = .ok (.ireturn, 1) := by decide +kernel
theorem dX7_isClosed_43 : decode cX7_isClosed 43 = .ok (.iinc 2 1, 3) := by decide +kernel
theorem dX7_isClosed_46 : decode cX7_isClosed 46 = .ok (.goto (-44), 3) := by decide +kernel
theorem dX7_isClosed_49 : decode cX7_isClosed 49 = .ok (.iconst 0, 1) := by decide +kernel
theorem dX7_isClosed_50 : decode cX7_isClosed 50 = .ok (.ireturn, 1) := by decide +kernel
theorem dX7_insertCorner_0 : decode cX7_insertCorner 0 = .ok (.aload_n 0, 1) := by decide +kernel
theorem dX7_insertCorner_1 : decode cX7_insertCorner 1 = .ok (.getfield 15, 3) := by decide +kernel
theorem dX7_insertCorner_4 : decode cX7_insertCorner 4 = .ok (.iconst 4, 1) := by decide +kernel
theorem dX7_insertCorner_5 : decode cX7_insertCorner 5 = .ok (.if_icmp .lt 4, 3) := by decide +kernel
theorem dX7_insertCorner_8 : decode cX7_insertCorner 8 = .ok (.return_, 1) := by decide +kernel
theorem dX7_insertCorner_9 : decode cX7_insertCorner 9 = .ok (.aload_n 0, 1) := by decide +kernel
theorem dX7_insertCorner_10 : decode cX7_insertCorner 10 = .ok (.getfield 21, 3) := by decide +kernel
theorem dX7_insertCorner_13 : decode cX7_insertCorner 13 = .ok (.aload_n 0, 1) := by decide +kernel
theorem dX7_insertCorner_14 : decode cX7_insertCorner 14 = .ok (.getfield 15, 3) := by decide +kernel
theorem dX7_insertCorner_17 : decode cX7_insertCorner 17 = .ok (.aaload, 1) := by decide +kernel
theorem dX7_insertCorner_18 : decode cX7_insertCorner 18 = .ok (.astore_n 3, 1) := by decide +kernel
theorem dX7_insertCorner_19 : decode cX7_insertCorner 19 = .ok (.aload_n 0, 1) := by decide +kernel
theorem dX7_insertCorner_20 : decode cX7_insertCorner 20 = .ok (.getfield 15, 3) := by decide +kernel
theorem dX7_insertCorner_23 : decode cX7_insertCorner 23 = .ok (.istore 4, 2) := by decide +kernel
theorem dX7_insertCorner_25 : decode cX7_insertCorner 25 = .ok (.aload_n 0, 1) := by decide +kernel
theorem dX7_insertCorner_26 : decode cX7_insertCorner 26 = .ok (.getfield 15, 3) := by decide +kernel
theorem dX7_insertCorner_29 : decode cX7_insertCorner 29 = .ok (.iconst 1, 1) := by decide +kernel
theorem dX7_insertCorner_30 : decode cX7_insertCorner 30 = .ok (.isub, 1) := by decide +kernel
theorem dX7_insertCorner_31 : decode cX7_insertCorner 31 = .ok (.istore 5, 2) := by decide +kernel
theorem dX7_insertCorner_33 : decode cX7_insertCorner 33 = .ok (.iload 5, 2) := by decide +kernel
theorem dX7_insertCorner_35 : decode cX7_insertCorner 35 = .ok (.ifCond .lt 43, 3) := by decide +kernel
theorem dX7_insertCorner_38 : decode cX7_insertCorner 38 = .ok (.aload_n 0, 1) := by decide +kernel
theorem dX7_insertCorner_39 : decode cX7_insertCorner 39 = .ok (.getfield 21, 3) := by decide +kernel
theorem dX7_insertCorner_42 : decode cX7_insertCorner 42 = .ok (.iload 5, 2) := by decide +kernel
theorem dX7_insertCorner_44 : decode cX7_insertCorner 44 = .ok (.aaload, 1) := by decide +kernel
theorem dX7_insertCorner_45 : decode cX7_insertCorner 45 = .ok (.getfield 71, 3) := by decide +kernel
theorem dX7_insertCorner_48 : decode cX7_insertCorner 48 = .ok (.iload_n 1, 1) := by decide +kernel
theorem dX7_insertCorner_49 : decode cX7_insertCorner 49 = .ok (.if_icmp .le 29, 3) := by decide +kernel
theorem dX7_insertCorner_52 : decode cX7_insertCorner 52 = .ok (.aload_n 0, 1) := by decide +kernel
theorem dX7_insertCorner_53 : decode cX7_insertCorner 53 = .ok (.getfield 21, 3) := by decide +kernel
theorem dX7_insertCorner_56 : decode cX7_insertCorner 56 = .ok (.iload 5, 2) := by decide +kernel
theorem dX7_insertCorner_58 : decode cX7_insertCorner 58 = .ok (.iconst 1, 1) := by decide +kernel
theorem dX7_insertCorner_59 : decode cX7_insertCorner 59 = .ok (.iadd, 1) := by decide +kernel
theorem dX7_insertCorner_60 : decode cX7_insertCorner 60 = .ok (.aload_n 0, 1) := by decide +kernel
theorem dX7_insertCorner_61 : decode cX7_insertCorner 61 = .ok (.getfield 21, 3) := by decide +kernel
theorem dX7_insertCorner_64 : decode cX7_insertCorner 64 = .ok (.iload 5, 2) := by decide +kernel
theorem dX7_insertCorner_66 : decode cX7_insertCorner 66 = .ok (.aaload, 1) := by decide +kernel
theorem dX7_insertCorner_67 : decode cX7_insertCorner 67 = .ok (.aastore, 1) := by decide +kernel
theorem dX7_insertCorner_68 : decode cX7_insertCorner 68 = .ok (.iload 5, 2) := by decide +kernel
theorem dX7_insertCorner_70 : decode cX7_insertCorner 70 = .ok (.istore 4, 2) := by decide +kernel
theorem dX7_insertCorner_72 : decode cX7_insertCorner 72 = .ok (.iinc 5 (-1), 3) := by decide +kernel
theorem dX7_insertCorner_75 : decode cX7_insertCorner 75 = .ok (.goto (-42), 3) := by decide +kernel
theorem dX7_insertCorner_78 : decode cX7_insertCorner 78 = .ok (.aload_n 0, 1) := by decide +kernel
theorem dX7_insertCorner_79 : decode cX7_insertCorner 79 = .ok (.getfield 21, 3) := by decide +kernel
theorem dX7_insertCorner_82 : decode cX7_insertCorner 82 = .ok (.iload 4, 2) := by decide +kernel
theorem dX7_insertCorner_84 : decode cX7_insertCorner 84 = .ok (.aload_n 3, 1) := by decide +kernel
theorem dX7_insertCorner_85 : decode cX7_insertCorner 85 = .ok (.aastore, 1) := by decide +kernel
theorem dX7_insertCorner_86 : decode cX7_insertCorner 86 = .ok (.aload_n 3, 1) := by decide +kernel
theorem dX7_insertCorner_87 : decode cX7_insertCorner 87 = .ok (.iload_n 1, 1) := by decide +kernel
theorem dX7_insertCorner_88 : decode cX7_insertCorner 88 = .ok (.aload_n 2, 1) := by decide +kernel
theorem dX7_insertCorner_89 : decode cX7_insertCorner 89 = .ok (.invokevirtual 74, 3) := by decide +kernel
theorem dX7_insertCorner_92 : decode cX7_insertCorner 92 = .ok (.aload_n 0, 1) := by decide +kernel
theorem dX7_insertCorner_93 : decode cX7_insertCorner 93 = .ok (.dup, 1) := by decide +kernel
theorem dX7_insertCorner_94 : decode cX7_insertCorner 94 = .ok (.getfield 15, 3) := by decide +kernel
theorem dX7_insertCorner_97 : decode cX7_insertCorner 97 = .ok (.iconst 1, 1) := by decide +kernel
theorem dX7_insertCorner_98 : decode cX7_insertCorner 98 = .ok (.iadd, 1) := by decide +kernel
theorem dX7_insertCorner_99 : decode cX7_insertCorner 99 = .ok (.putfield 15, 3) := by decide +kernel
theorem dX7_insertCorner_102 : decode cX7_insertCorner 102 = .ok (.return_, 1) := by decide +kernel
theorem dX7_findWall_0 : decode cX7_findWall 0 = .ok (.aload_n 0, 1) := by decide +kernel
theorem dX7_findWall_1 : decode cX7_findWall 1 = .ok (.iconst 0, 1) := by decide +kernel
theorem dX7_findWall_2 : decode cX7_findWall 2 = .ok (.putfield 25, 3) := by decide +kernel
theorem dX7_findWall_5 : decode cX7_findWall 5 = .ok (.aload_n 0, 1) := by decide +kernel
theorem dX7_findWall_6 : decode cX7_findWall 6 = .ok (.iconst 0, 1) := by decide +kernel
theorem dX7_findWall_7 : decode cX7_findWall 7 = .ok (.putfield 28, 3) := by decide +kernel
theorem dX7_findWall_10 : decode cX7_findWall 10 = .ok (.iconst 0, 1) := by decide +kernel
theorem dX7_findWall_11 : decode cX7_findWall 11 = .ok (.istore_n 1, 1) := by decide +kernel
theorem dX7_findWall_12 : decode cX7_findWall 12 = .ok (.iload_n 1, 1) := by decide +kernel
theorem dX7_findWall_13 : decode cX7_findWall 13 = .ok (.aload_n 0, 1) := by decide +kernel
theorem dX7_findWall_14 : decode cX7_findWall 14 = .ok (.getfield 15, 3) := by decide +kernel
theorem dX7_findWall_17 : decode cX7_findWall 17 = .ok (.if_icmp .ge 19, 3) := by decide +kernel
theorem dX7_findWall_20 : decode cX7_findWall 20 = .ok (.aload_n 0, 1) := by decide +kernel
theorem dX7_findWall_21 : decode cX7_findWall 21 = .ok (.aload_n 0, 1) := by decide +kernel
theorem dX7_findWall_22 : decode cX7_findWall 22 = .ok (.getfield 21, 3) := by decide +kernel
theorem dX7_findWall_25 : decode cX7_findWall 25 = .ok (.iload_n 1, 1) := by decide +kernel
theorem dX7_findWall_26 : decode cX7_findWall 26 = .ok (.aaload, 1) := by decide +kernel
theorem dX7_findWall_27 : decode cX7_findWall 27 = .ok (.invokevirtual 77, 3) := by decide +kernel
theorem dX7_findWall_30 : decode cX7_findWall 30 = .ok (.iinc 1 1, 3) := by decide +kernel
theorem dX7_findWall_33 : decode cX7_findWall 33 = .ok (.goto (-21), 3) := by decide +kernel
theorem dX7_findWall_36 : decode cX7_findWall 36 = .ok (.bipush 9, 2) := by decide +kernel
theorem dX7_findWall_38 : decode cX7_findWall 38 = .ok (.istore_n 1, 1) := by decide +kernel
theorem dX7_findWall_39 : decode cX7_findWall 39 = .ok (.iload_n 1, 1) := by decide +kernel
theorem dX7_findWall_40 : decode cX7_findWall 40 = .ok (.iconst 1, 1) := by decide +kernel
theorem dX7_findWall_41 : decode cX7_findWall 41 = .ok (.if_icmp .le 47, 3) := by decide +kernel
theorem dX7_findWall_44 : decode cX7_findWall 44 = .ok (.aload_n 0, 1) := by decide +kernel
theorem dX7_findWall_45 : decode cX7_findWall 45 = .ok (.getfield 25, 3) := by decide +kernel
theorem dX7_findWall_48 : decode cX7_findWall 48 = .ok (.iload_n 1, 1) := by decide +kernel
theorem dX7_findWall_49 : decode cX7_findWall 49 = .ok (.irem, 1) := by decide +kernel
theorem dX7_findWall_50 : decode cX7_findWall 50 = .ok (.ifCond .ne 32, 3) := by decide +kernel
theorem dX7_findWall_53 : decode cX7_findWall 53 = .ok (.aload_n 0, 1) := by decide +kernel
theorem dX7_findWall_54 : decode cX7_findWall 54 = .ok (.getfield 28, 3) := by decide +kernel
theorem dX7_findWall_57 : decode cX7_findWall 57 = .ok (.iload_n 1, 1) := by decide +kernel
theorem dX7_findWall_58 : decode cX7_findWall 58 = .ok (.irem, 1) := by decide +kernel
theorem dX7_findWall_59 : decode cX7_findWall 59 = .ok (.ifCond .ne 23, 3) := by decide +kernel
theorem dX7_findWall_62 : decode cX7_findWall 62 = .ok (.aload_n 0, 1) := by decide +kernel
theorem dX7_findWall_63 : decode cX7_findWall 63 = .ok (.dup, 1) := by decide +kernel
theorem dX7_findWall_64 : decode cX7_findWall 64 = .ok (.getfield 25, 3) := by decide +kernel
theorem dX7_findWall_67 : decode cX7_findWall 67 = .ok (.iload_n 1, 1) := by decide +kernel
theorem dX7_findWall_68 : decode cX7_findWall 68 = .ok (.idiv, 1) := by decide +kernel
theorem dX7_findWall_69 : decode cX7_findWall 69 = .ok (.putfield 25, 3) := by decide +kernel
theorem dX7_findWall_72 : decode cX7_findWall 72 = .ok (.aload_n 0, 1) := by decide +kernel
theorem dX7_findWall_73 : decode cX7_findWall 73 = .ok (.dup, 1) := by decide +kernel
theorem dX7_findWall_74 : decode cX7_findWall 74 = .ok (.getfield 28, 3) := by decide +kernel
theorem dX7_findWall_77 : decode cX7_findWall 77 = .ok (.iload_n 1, 1) := by decide +kernel
theorem dX7_findWall_78 : decode cX7_findWall 78 = .ok (.idiv, 1) := by decide +kernel
theorem dX7_findWall_79 : decode cX7_findWall 79 = .ok (.putfield 28, 3) := by decide +kernel
theorem dX7_findWall_82 : decode cX7_findWall 82 = .ok (.iinc 1 (-1), 3) := by decide +kernel
theorem dX7_findWall_85 : decode cX7_findWall 85 = .ok (.goto (-46), 3) := by decide +kernel
theorem dX7_findWall_88 : decode cX7_findWall 88 = .ok (.return_, 1) := by decide +kernel
theorem dX7_lowerWall_0 : decode cX7_lowerWall 0 = .ok (.aload_n 1, 1) := by decide +kernel
theorem dX7_lowerWall_1 : decode cX7_lowerWall 1 = .ok (.getfield 71, 3) := by decide +kernel
theorem dX7_lowerWall_4 : decode cX7_lowerWall 4 = .ok (.istore_n 2, 1) := by decide +kernel
theorem dX7_lowerWall_5 : decode cX7_lowerWall 5 = .ok (.iconst 0, 1) := by decide +kernel
theorem dX7_lowerWall_6 : decode cX7_lowerWall 6 = .ok (.istore_n 3, 1) := by decide +kernel
theorem dX7_lowerWall_7 : decode cX7_lowerWall 7 = .ok (.iload_n 3, 1) := by decide +kernel
theorem dX7_lowerWall_8 : decode cX7_lowerWall 8 = .ok (.aload_n 1, 1) := by decide +kernel
theorem dX7_lowerWall_9 : decode cX7_lowerWall 9 = .ok (.getfield 81, 3) := by decide +kernel
theorem dX7_lowerWall_12 : decode cX7_lowerWall 12 = .ok (.if_icmp .ge 82, 3) := by decide +kernel
theorem dX7_lowerWall_15 : decode cX7_lowerWall 15 = .ok (.aload_n 1, 1) := by decide +kernel
theorem dX7_lowerWall_16 : decode cX7_lowerWall 16 = .ok (.getfield 82, 3) := by decide +kernel
theorem dX7_lowerWall_19 : decode cX7_lowerWall 19 = .ok (.iload_n 3, 1) := by decide +kernel
theorem dX7_lowerWall_20 : decode cX7_lowerWall 20 = .ok (.iaload, 1) := by decide +kernel
theorem dX7_lowerWall_21 : decode cX7_lowerWall 21 = .ok (.istore 4, 2) := by decide +kernel
theorem dX7_lowerWall_23 : decode cX7_lowerWall 23 = .ok (.iload_n 2, 1) := by decide +kernel
theorem dX7_lowerWall_24 : decode cX7_lowerWall 24 = .ok (.bipush 9, 2) := by decide +kernel
theorem dX7_lowerWall_26 : decode cX7_lowerWall 26 = .ok (.idiv, 1) := by decide +kernel
theorem dX7_lowerWall_27 : decode cX7_lowerWall 27 = .ok (.iload 4, 2) := by decide +kernel
theorem dX7_lowerWall_29 : decode cX7_lowerWall 29 = .ok (.bipush 9, 2) := by decide +kernel
theorem dX7_lowerWall_31 : decode cX7_lowerWall 31 = .ok (.idiv, 1) := by decide +kernel
theorem dX7_lowerWall_32 : decode cX7_lowerWall 32 = .ok (.isub, 1) := by decide +kernel
theorem dX7_lowerWall_33 : decode cX7_lowerWall 33 = .ok (.istore 5, 2) := by decide +kernel
theorem dX7_lowerWall_35 : decode cX7_lowerWall 35 = .ok (.iload 4, 2) := by decide +kernel
theorem dX7_lowerWall_37 : decode cX7_lowerWall 37 = .ok (.bipush 9, 2) := by decide +kernel
theorem dX7_lowerWall_39 : decode cX7_lowerWall 39 = .ok (.irem, 1) := by decide +kernel
theorem dX7_lowerWall_40 : decode cX7_lowerWall 40 = .ok (.iload_n 2, 1) := by decide +kernel
theorem dX7_lowerWall_41 : decode cX7_lowerWall 41 = .ok (.bipush 9, 2) := by decide +kernel
theorem dX7_lowerWall_43 : decode cX7_lowerWall 43 = .ok (.irem, 1) := by decide +kernel
theorem dX7_lowerWall_44 : decode cX7_lowerWall 44 = .ok (.isub, 1) := by decide +kernel
theorem dX7_lowerWall_45 : decode cX7_lowerWall 45 = .ok (.istore 6, 2) := by decide +kernel
theorem dX7_lowerWall_47 : decode cX7_lowerWall 47 = .ok (.iload 6, 2) := by decide +kernel
theorem dX7_lowerWall_49 : decode cX7_lowerWall 49 = .ok (.ifCond .le 39, 3) := by decide +kernel
theorem dX7_lowerWall_52 : decode cX7_lowerWall 52 = .ok (.aload_n 0, 1) := by decide +kernel
theorem dX7_lowerWall_53 : decode cX7_lowerWall 53 = .ok (.invokevirtual 85, 3) := by decide +kernel
theorem dX7_lowerWall_56 : decode cX7_lowerWall 56 = .ok (.ifCond .eq 20, 3) := by decide +kernel
theorem dX7_lowerWall_59 : decode cX7_lowerWall 59 = .ok (.iload 5, 2) := by decide +kernel
theorem dX7_lowerWall_61 : decode cX7_lowerWall 61 = .ok (.aload_n 0, 1) := by decide +kernel
theorem dX7_lowerWall_62 : decode cX7_lowerWall 62 = .ok (.getfield 28, 3) := by decide +kernel
theorem dX7_lowerWall_65 : decode cX7_lowerWall 65 = .ok (.imul, 1) := by decide +kernel
theorem dX7_lowerWall_66 : decode cX7_lowerWall 66 = .ok (.aload_n 0, 1) := by decide +kernel
theorem dX7_lowerWall_67 : decode cX7_lowerWall 67 = .ok (.getfield 25, 3) := by decide +kernel
theorem dX7_lowerWall_70 : decode cX7_lowerWall 70 = .ok (.iload 6, 2) := by decide +kernel
theorem dX7_lowerWall_72 : decode cX7_lowerWall 72 = .ok (.imul, 1) := by decide +kernel
theorem dX7_lowerWall_73 : decode cX7_lowerWall 73 = .ok (.if_icmp .ge 15, 3) := by decide +kernel
theorem dX7_lowerWall_76 : decode cX7_lowerWall 76 = .ok (.aload_n 0, 1) := by decide +kernel
theorem dX7_lowerWall_77 : decode cX7_lowerWall 77 = .ok (.iload 5, 2) := by decide +kernel
theorem dX7_lowerWall_79 : decode cX7_lowerWall 79 = .ok (.putfield 25, 3) := by decide +kernel
theorem dX7_lowerWall_82 : decode cX7_lowerWall 82 = .ok (.aload_n 0, 1) := by decide +kernel
theorem dX7_lowerWall_83 : decode cX7_lowerWall 83 = .ok (.iload 6, 2) := by decide +kernel
theorem dX7_lowerWall_85 : decode cX7_lowerWall 85 = .ok (.putfield 28, 3) := by decide +kernel
theorem dX7_lowerWall_88 : decode cX7_lowerWall 88 = .ok (.iinc 3 1, 3) := by decide +kernel
theorem dX7_lowerWall_91 : decode cX7_lowerWall 91 = .ok (.goto (-84), 3) := by decide +kernel
theorem dX7_lowerWall_94 : decode cX7_lowerWall 94 = .ok (.return_, 1) := by decide +kernel
theorem dX7_hasWall_0 : decode cX7_hasWall 0 = .ok (.aload_n 0, 1) := by decide +kernel
theorem dX7_hasWall_1 : decode cX7_hasWall 1 = .ok (.getfield 28, 3) := by decide +kernel
theorem dX7_hasWall_4 : decode cX7_hasWall 4 = .ok (.ifCond .eq 7, 3) := by decide +kernel
theorem dX7_hasWall_7 : decode cX7_hasWall 7 = .ok (.iconst 1, 1) := by decide +kernel
theorem dX7_hasWall_8 : decode cX7_hasWall 8 = .ok (.goto 4, 3) := by decide +kernel
theorem dX7_hasWall_11 : decode cX7_hasWall 11 = .ok (.iconst 0, 1) := by decide +kernel
theorem dX7_hasWall_12 : decode cX7_hasWall 12 = .ok (.ireturn, 1) := by decide +kernel
theorem dX7_hasAboveWall_0 : decode cX7_hasAboveWall 0 = .ok (.aload_n 0, 1) := by decide +kernel
theorem dX7_hasAboveWall_1 : decode cX7_hasAboveWall 1 = .ok (.invokevirtual 85, 3) := by decide +kernel
theorem dX7_hasAboveWall_4 : decode cX7_hasAboveWall 4 = .ok (.ifCond .eq 22, 3) := by decide +kernel
theorem dX7_hasAboveWall_7 : decode cX7_hasAboveWall 7 = .ok (.iload_n 2, 1) := by decide +kernel
theorem dX7_hasAboveWall_8 : decode cX7_hasAboveWall 8 = .ok (.aload_n 0, 1) := by decide +kernel
theorem dX7_hasAboveWall_9 : decode cX7_hasAboveWall 9 = .ok (.getfield 28, 3) := by decide +kernel
theorem dX7_hasAboveWall_12 : decode cX7_hasAboveWall 12 = .ok (.imul, 1) := by decide +kernel
theorem dX7_hasAboveWall_13 : decode cX7_hasAboveWall 13 = .ok (.aload_n 0, 1) := by decide +kernel
theorem dX7_hasAboveWall_14 : decode cX7_hasAboveWall 14 = .ok (.getfield 25, 3) := by decide +kernel
theorem dX7_hasAboveWall_17 : decode cX7_hasAboveWall 17 = .ok (.iload_n 1, 1) := by decide +kernel
theorem dX7_hasAboveWall_18 : decode cX7_hasAboveWall 18 = .ok (.imul, 1) := by decide +kernel
theorem dX7_hasAboveWall_19 : decode cX7_hasAboveWall 19 = .ok (.if_icmp .le 7, 3) := by decide +kernel
theorem dX7_hasAboveWall_22 : decode cX7_hasAboveWall 22 = .ok (.iconst 1, 1) := by decide +kernel
theorem dX7_hasAboveWall_23 : decode cX7_hasAboveWall 23 = .ok (.goto 4, 3) := by decide +kernel
theorem dX7_hasAboveWall_26 : decode cX7_hasAboveWall 26 = .ok (.iconst 0, 1) := by decide +kernel
theorem dX7_hasAboveWall_27 : decode cX7_hasAboveWall 27 = .ok (.ireturn, 1) := by decide +kernel
theorem dX7_hasOnWall_0 : decode cX7_hasOnWall 0 = .ok (.aload_n 0, 1) := by decide +kernel
theorem dX7_hasOnWall_1 : decode cX7_hasOnWall 1 = .ok (.invokevirtual 85, 3) := by decide +kernel
theorem dX7_hasOnWall_4 : decode cX7_hasOnWall 4 = .ok (.ifCond .eq 22, 3) := by decide +kernel
theorem dX7_hasOnWall_7 : decode cX7_hasOnWall 7 = .ok (.iload_n 2, 1) := by decide +kernel
theorem dX7_hasOnWall_8 : decode cX7_hasOnWall 8 = .ok (.aload_n 0, 1) := by decide +kernel
theorem dX7_hasOnWall_9 : decode cX7_hasOnWall 9 = .ok (.getfield 28, 3) := by decide +kernel
theorem dX7_hasOnWall_12 : decode cX7_hasOnWall 12 = .ok (.imul, 1) := by decide +kernel
theorem dX7_hasOnWall_13 : decode cX7_hasOnWall 13 = .ok (.aload_n 0, 1) := by decide +kernel
theorem dX7_hasOnWall_14 : decode cX7_hasOnWall 14 = .ok (.getfield 25, 3) := by decide +kernel
theorem dX7_hasOnWall_17 : decode cX7_hasOnWall 17 = .ok (.iload_n 1, 1) := by decide +kernel
theorem dX7_hasOnWall_18 : decode cX7_hasOnWall 18 = .ok (.imul, 1) := by decide +kernel
theorem dX7_hasOnWall_19 : decode cX7_hasOnWall 19 = .ok (.if_icmp .ne 7, 3) := by decide +kernel
theorem dX7_hasOnWall_22 : decode cX7_hasOnWall 22 = .ok (.iconst 1, 1) := by decide +kernel
theorem dX7_hasOnWall_23 : decode cX7_hasOnWall 23 = .ok (.goto 4, 3) := by decide +kernel
theorem dX7_hasOnWall_26 : decode cX7_hasOnWall 26 = .ok (.iconst 0, 1) := by decide +kernel
theorem dX7_hasOnWall_27 : decode cX7_hasOnWall 27 = .ok (.ireturn, 1) := by decide +kernel
theorem dX7_countCornersOutside_0 : decode cX7_countCornersOutside 0 = .ok (.iconst 0, 1) := by decide +kernel
theorem dX7_countCornersOutside_1 : decode cX7_countCornersOutside 1 = .ok (.istore_n 2, 1) := by decide +kernel
theorem dX7_countCornersOutside_2 : decode cX7_countCornersOutside 2 = .ok (.iconst 0, 1) := by decide +kernel
theorem dX7_countCornersOutside_3 : decode cX7_countCornersOutside 3 = .ok (.istore_n 3, 1) := by decide +kernel
theorem dX7_countCornersOutside_4 : decode cX7_countCornersOutside 4 = .ok (.iload_n 3, 1) := by decide +kernel
theorem dX7_countCornersOutside_5 : decode cX7_countCornersOutside 5 = .ok (.aload_n 0, 1) := by decide +kernel
theorem dX7_countCornersOutside_6 : decode cX7_countCornersOutside 6 = .ok (.getfield 15, 3) := by decide +kernel
theorem dX7_countCornersOutside_9 : decode cX7_countCornersOutside 9 = .ok (.if_icmp .ge 28, 3) := by decide +kernel
theorem dX7_countCornersOutside_12 : decode cX7_countCornersOutside 12 = .ok (.aload_n 1, 1) := by decide +kernel
theorem dX7_countCornersOutside_13 : decode cX7_countCornersOutside 13 = .ok (.aload_n 0, 1) := by decide +kernel
theorem dX7_countCornersOutside_14 : decode cX7_countCornersOutside 14 = .ok (.getfield 21, 3) := by decide +kernel
theorem dX7_countCornersOutside_17 : decode cX7_countCornersOutside 17 = .ok (.iload_n 3, 1) := by decide +kernel
theorem dX7_countCornersOutside_18 : decode cX7_countCornersOutside 18 = .ok (.aaload, 1) := by decide +kernel
theorem dX7_countCornersOutside_19 : decode cX7_countCornersOutside 19 = .ok (.getfield 71, 3) := by decide +kernel
theorem dX7_countCornersOutside_22 : decode cX7_countCornersOutside 22 = .ok (.invokevirtual 89, 3) := by decide +kernel
theorem dX7_countCornersOutside_25 : decode cX7_countCornersOutside 25 = .ok (.ifCond .ne 6, 3) := by decide +kernel
theorem dX7_countCornersOutside_28 : decode cX7_countCornersOutside 28 = .ok (.iinc 2 1, 3) := by decide +kernel
theorem dX7_countCornersOutside_31 : decode cX7_countCornersOutside 31 = .ok (.iinc 3 1, 3) := by decide +kernel
theorem dX7_countCornersOutside_34 : decode cX7_countCornersOutside 34 = .ok (.goto (-30), 3) := by decide +kernel
theorem dX7_countCornersOutside_37 : decode cX7_countCornersOutside 37 = .ok (.iload_n 2, 1) := by decide +kernel
theorem dX7_countCornersOutside_38 : decode cX7_countCornersOutside 38 = .ok (.ireturn, 1) := by decide +kernel
theorem dX7_hasCorner_0 : decode cX7_hasCorner 0 = .ok (.iconst 0, 1) := by decide +kernel
theorem dX7_hasCorner_1 : decode cX7_hasCorner 1 = .ok (.istore_n 2, 1) := by decide +kernel
theorem dX7_hasCorner_2 : decode cX7_hasCorner 2 = .ok (.iload_n 2, 1) := by decide +kernel
theorem dX7_hasCorner_3 : decode cX7_hasCorner 3 = .ok (.aload_n 0, 1) := by decide +kernel
theorem dX7_hasCorner_4 : decode cX7_hasCorner 4 = .ok (.getfield 15, 3) := by decide +kernel
theorem dX7_hasCorner_7 : decode cX7_hasCorner 7 = .ok (.if_icmp .ge 24, 3) := by decide +kernel
theorem dX7_hasCorner_10 : decode cX7_hasCorner 10 = .ok (.aload_n 0, 1) := by decide +kernel
theorem dX7_hasCorner_11 : decode cX7_hasCorner 11 = .ok (.getfield 21, 3) := by decide +kernel
theorem dX7_hasCorner_14 : decode cX7_hasCorner 14 = .ok (.iload_n 2, 1) := by decide +kernel
theorem dX7_hasCorner_15 : decode cX7_hasCorner 15 = .ok (.aaload, 1) := by decide +kernel
theorem dX7_hasCorner_16 : decode cX7_hasCorner 16 = .ok (.getfield 71, 3) := by decide +kernel
theorem dX7_hasCorner_19 : decode cX7_hasCorner 19 = .ok (.iload_n 1, 1) := by decide +kernel
theorem dX7_hasCorner_20 : decode cX7_hasCorner 20 = .ok (.if_icmp .ne 5, 3) := by decide +kernel
theorem dX7_hasCorner_23 : decode cX7_hasCorner 23 = .ok (.iconst 1, 1) := by decide +kernel
theorem dX7_hasCorner_24 : decode cX7_hasCorner 24 = .ok (.ireturn, 1) := by decide +kernel
theorem dX7_hasCorner_25 : decode cX7_hasCorner 25 = .ok (.iinc 2 1, 3) := by decide +kernel
theorem dX7_hasCorner_28 : decode cX7_hasCorner 28 = .ok (.goto (-26), 3) := by decide +kernel
theorem dX7_hasCorner_31 : decode cX7_hasCorner 31 = .ok (.iconst 0, 1) := by decide +kernel
theorem dX7_hasCorner_32 : decode cX7_hasCorner 32 = .ok (.ireturn, 1) := by decide +kernel
theorem dX7_holdsTermsOf_0 : decode cX7_holdsTermsOf 0 = .ok (.iconst 0, 1) := by decide +kernel
theorem dX7_holdsTermsOf_1 : decode cX7_holdsTermsOf 1 = .ok (.istore_n 2, 1) := by decide +kernel
theorem dX7_holdsTermsOf_2 : decode cX7_holdsTermsOf 2 = .ok (.iload_n 2, 1) := by decide +kernel
theorem dX7_holdsTermsOf_3 : decode cX7_holdsTermsOf 3 = .ok (.aload_n 0, 1) := by decide +kernel
theorem dX7_holdsTermsOf_4 : decode cX7_holdsTermsOf 4 = .ok (.getfield 15, 3) := by decide +kernel
theorem dX7_holdsTermsOf_7 : decode cX7_holdsTermsOf 7 = .ok (.if_icmp .ge 24, 3) := by decide +kernel
theorem dX7_holdsTermsOf_10 : decode cX7_holdsTermsOf 10 = .ok (.aload_n 0, 1) := by decide +kernel
theorem dX7_holdsTermsOf_11 : decode cX7_holdsTermsOf 11 = .ok (.getfield 21, 3) := by decide +kernel
theorem dX7_holdsTermsOf_14 : decode cX7_holdsTermsOf 14 = .ok (.iload_n 2, 1) := by decide +kernel
theorem dX7_holdsTermsOf_15 : decode cX7_holdsTermsOf 15 = .ok (.aaload, 1) := by decide +kernel
theorem dX7_holdsTermsOf_16 : decode cX7_holdsTermsOf 16 = .ok (.aload_n 1, 1) := by decide +kernel
theorem dX7_holdsTermsOf_17 : decode cX7_holdsTermsOf 17 = .ok (.invokevirtual 92, 3) := by decide +kernel
theorem dX7_holdsTermsOf_20 : decode cX7_holdsTermsOf 20 = .ok (.ifCond .eq 5, 3) := by decide +kernel
theorem dX7_holdsTermsOf_23 : decode cX7_holdsTermsOf 23 = .ok (.iconst 1, 1) := by decide +kernel
theorem dX7_holdsTermsOf_24 : decode cX7_holdsTermsOf 24 = .ok (.ireturn, 1) := by decide +kernel
theorem dX7_holdsTermsOf_25 : decode cX7_holdsTermsOf 25 = .ok (.iinc 2 1, 3) := by decide +kernel
theorem dX7_holdsTermsOf_28 : decode cX7_holdsTermsOf 28 = .ok (.goto (-26), 3) := by decide +kernel
theorem dX7_holdsTermsOf_31 : decode cX7_holdsTermsOf 31 = .ok (.iconst 0, 1) := by decide +kernel
theorem dX7_holdsTermsOf_32 : decode cX7_holdsTermsOf 32 = .ok (.ireturn, 1) := by decide +kernel
theorem dX7_isMirrorOf_0 : decode cX7_isMirrorOf 0 = .ok (.iconst 0, 1) := by decide +kernel
theorem dX7_isMirrorOf_1 : decode cX7_isMirrorOf 1 = .ok (.istore_n 2, 1) := by decide +kernel
theorem dX7_isMirrorOf_2 : decode cX7_isMirrorOf 2 = .ok (.iload_n 2, 1) := by decide +kernel
theorem dX7_isMirrorOf_3 : decode cX7_isMirrorOf 3 = .ok (.bipush 9, 2) := by decide +kernel
theorem dX7_isMirrorOf_5 : decode cX7_isMirrorOf 5 = .ok (.if_icmp .ge 25, 3) := by decide +kernel
theorem dX7_isMirrorOf_8 : decode cX7_isMirrorOf 8 = .ok (.aload_n 0, 1) := by decide +kernel
theorem dX7_isMirrorOf_9 : decode cX7_isMirrorOf 9 = .ok (.getfield 9, 3) := by decide +kernel
theorem dX7_isMirrorOf_12 : decode cX7_isMirrorOf 12 = .ok (.iload_n 2, 1) := by decide +kernel
theorem dX7_isMirrorOf_13 : decode cX7_isMirrorOf 13 = .ok (.iaload, 1) := by decide +kernel
theorem dX7_isMirrorOf_14 : decode cX7_isMirrorOf 14 = .ok (.aload_n 1, 1) := by decide +kernel
theorem dX7_isMirrorOf_15 : decode cX7_isMirrorOf 15 = .ok (.iload_n 2, 1) := by decide +kernel
theorem dX7_isMirrorOf_16 : decode cX7_isMirrorOf 16 = .ok (.invokevirtual 96, 3) := by decide +kernel
theorem dX7_isMirrorOf_19 : decode cX7_isMirrorOf 19 = .ok (.if_icmp .eq 5, 3) := by decide +kernel
theorem dX7_isMirrorOf_22 : decode cX7_isMirrorOf 22 = .ok (.iconst 0, 1) := by decide +kernel
theorem dX7_isMirrorOf_23 : decode cX7_isMirrorOf 23 = .ok (.ireturn, 1) := by decide +kernel
theorem dX7_isMirrorOf_24 : decode cX7_isMirrorOf 24 = .ok (.iinc 2 1, 3) := by decide +kernel
theorem dX7_isMirrorOf_27 : decode cX7_isMirrorOf 27 = .ok (.goto (-25), 3) := by decide +kernel
theorem dX7_isMirrorOf_30 : decode cX7_isMirrorOf 30 = .ok (.iconst 1, 1) := by decide +kernel
theorem dX7_isMirrorOf_31 : decode cX7_isMirrorOf 31 = .ok (.ireturn, 1) := by decide +kernel
theorem dX7_rowLength_0 : decode cX7_rowLength 0 = .ok (.iconst 0, 1) := by decide +kernel
theorem dX7_rowLength_1 : decode cX7_rowLength 1 = .ok (.istore_n 2, 1) := by decide +kernel
theorem dX7_rowLength_2 : decode cX7_rowLength 2 = .ok (.aload_n 0, 1) := by decide +kernel
theorem dX7_rowLength_3 : decode cX7_rowLength 3 = .ok (.getfield 9, 3) := by decide +kernel
theorem dX7_rowLength_6 : decode cX7_rowLength 6 = .ok (.astore_n 3, 1) := by decide +kernel
theorem dX7_rowLength_7 : decode cX7_rowLength 7 = .ok (.aload_n 3, 1) := by decide +kernel
theorem dX7_rowLength_8 : decode cX7_rowLength 8 = .ok (.arraylength, 1) := by decide +kernel
theorem dX7_rowLength_9 : decode cX7_rowLength 9 = .ok (.istore 4, 2) := by decide +kernel
theorem dX7_rowLength_11 : decode cX7_rowLength 11 = .ok (.iconst 0, 1) := by decide +kernel
theorem dX7_rowLength_12 : decode cX7_rowLength 12 = .ok (.istore 5, 2) := by decide +kernel
theorem dX7_rowLength_14 : decode cX7_rowLength 14 = .ok (.iload 5, 2) := by decide +kernel
theorem dX7_rowLength_16 : decode cX7_rowLength 16 = .ok (.iload 4, 2) := by decide +kernel
theorem dX7_rowLength_18 : decode cX7_rowLength 18 = .ok (.if_icmp .ge 24, 3) := by decide +kernel
theorem dX7_rowLength_21 : decode cX7_rowLength 21 = .ok (.aload_n 3, 1) := by decide +kernel
theorem dX7_rowLength_22 : decode cX7_rowLength 22 = .ok (.iload 5, 2) := by decide +kernel
theorem dX7_rowLength_24 : decode cX7_rowLength 24 = .ok (.iaload, 1) := by decide +kernel
theorem dX7_rowLength_25 : decode cX7_rowLength 25 = .ok (.istore 6, 2) := by decide +kernel
theorem dX7_rowLength_27 : decode cX7_rowLength 27 = .ok (.iload 6, 2) := by decide +kernel
theorem dX7_rowLength_29 : decode cX7_rowLength 29 = .ok (.iload_n 1, 1) := by decide +kernel
theorem dX7_rowLength_30 : decode cX7_rowLength 30 = .ok (.if_icmp .le 6, 3) := by decide +kernel
theorem dX7_rowLength_33 : decode cX7_rowLength 33 = .ok (.iinc 2 1, 3) := by decide +kernel
theorem dX7_rowLength_36 : decode cX7_rowLength 36 = .ok (.iinc 5 1, 3) := by decide +kernel
theorem dX7_rowLength_39 : decode cX7_rowLength 39 = .ok (.goto (-25), 3) := by decide +kernel
theorem dX7_rowLength_42 : decode cX7_rowLength 42 = .ok (.iload_n 2, 1) := by decide +kernel
theorem dX7_rowLength_43 : decode cX7_rowLength 43 = .ok (.ireturn, 1) := by decide +kernel
theorem dX7_standardDegree_0 : decode cX7_standardDegree 0 = .ok (.iconst (-1), 1) := by decide +kernel
theorem dX7_standardDegree_1 : decode cX7_standardDegree 1 = .ok (.istore_n 1, 1) := by decide +kernel
theorem dX7_standardDegree_2 : decode cX7_standardDegree 2 = .ok (.iconst 0, 1) := by decide +kernel
theorem dX7_standardDegree_3 : decode cX7_standardDegree 3 = .ok (.istore_n 2, 1) := by decide +kernel
theorem dX7_standardDegree_4 : decode cX7_standardDegree 4 = .ok (.iload_n 2, 1) := by decide +kernel
theorem dX7_standardDegree_5 : decode cX7_standardDegree 5 = .ok (.bipush 9, 2) := by decide +kernel
theorem dX7_standardDegree_7 : decode cX7_standardDegree 7 = .ok (.if_icmp .ge 33, 3) := by decide +kernel
theorem dX7_standardDegree_10 : decode cX7_standardDegree 10 = .ok (.aload_n 0, 1) := by decide +kernel
theorem dX7_standardDegree_11 : decode cX7_standardDegree 11 = .ok (.getfield 9, 3) := by decide +kernel
theorem dX7_standardDegree_14 : decode cX7_standardDegree 14 = .ok (.iload_n 2, 1) := by decide +kernel
theorem dX7_standardDegree_15 : decode cX7_standardDegree 15 = .ok (.iaload, 1) := by decide +kernel
theorem dX7_standardDegree_16 : decode cX7_standardDegree 16 = .ok (.ifCond .le 18, 3) := by decide +kernel
theorem dX7_standardDegree_19 : decode cX7_standardDegree 19 = .ok (.iload_n 1, 1) := by decide +kernel
theorem dX7_standardDegree_20 : decode cX7_standardDegree 20 = .ok (.iload_n 2, 1) := by decide +kernel
theorem dX7_standardDegree_21 : decode cX7_standardDegree 21 = .ok (.aload_n 0, 1) := by decide +kernel
theorem dX7_standardDegree_22 : decode cX7_standardDegree 22 = .ok (.getfield 9, 3) := by decide +kernel
theorem dX7_standardDegree_25 : decode cX7_standardDegree 25 = .ok (.iload_n 2, 1) := by decide +kernel
theorem dX7_standardDegree_26 : decode cX7_standardDegree 26 = .ok (.iaload, 1) := by decide +kernel
theorem dX7_standardDegree_27 : decode cX7_standardDegree 27 = .ok (.iadd, 1) := by decide +kernel
theorem dX7_standardDegree_28 : decode cX7_standardDegree 28 = .ok (.iconst 1, 1) := by decide +kernel
theorem dX7_standardDegree_29 : decode cX7_standardDegree 29 = .ok (.isub, 1) := by decide +kernel
theorem dX7_standardDegree_30 : decode cX7_standardDegree 30 = .ok (.invokestatic 99, 3) := by decide +kernel
theorem dX7_standardDegree_33 : decode cX7_standardDegree 33 = .ok (.istore_n 1, 1) := by decide +kernel
theorem dX7_standardDegree_34 : decode cX7_standardDegree 34 = .ok (.iinc 2 1, 3) := by decide +kernel
theorem dX7_standardDegree_37 : decode cX7_standardDegree 37 = .ok (.goto (-33), 3) := by decide +kernel
theorem dX7_standardDegree_40 : decode cX7_standardDegree 40 = .ok (.iload_n 1, 1) := by decide +kernel
theorem dX7_standardDegree_41 : decode cX7_standardDegree 41 = .ok (.ireturn, 1) := by decide +kernel
theorem dX8_init_0 : decode cX8_init 0 = .ok (.aload_n 0, 1) := by decide +kernel
theorem dX8_init_1 : decode cX8_init 1 = .ok (.invokespecial 3, 3) := by decide +kernel
theorem dX8_init_4 : decode cX8_init 4 = .ok (.aload_n 0, 1) := by decide +kernel
theorem dX8_init_5 : decode cX8_init 5 = .ok (.iconst 0, 1) := by decide +kernel
theorem dX8_init_6 : decode cX8_init 6 = .ok (.putfield 11, 3) := by decide +kernel
theorem dX8_init_9 : decode cX8_init 9 = .ok (.aload_n 0, 1) := by decide +kernel
theorem dX8_init_10 : decode cX8_init 10 = .ok (.iconst 0, 1) := by decide +kernel
theorem dX8_init_11 : decode cX8_init 11 = .ok (.putfield 15, 3) := by decide +kernel
theorem dX8_init_14 : decode cX8_init 14 = .ok (.aload_n 0, 1) := by decide +kernel
theorem dX8_init_15 : decode cX8_init 15 = .ok (.bipush 81, 2) := by decide +kernel
theorem dX8_init_17 : decode cX8_init 17 = .ok (.newarray .int, 2) := by decide +kernel
theorem dX8_init_19 : decode cX8_init 19 = .ok (.putfield 18, 3) := by decide +kernel
theorem dX8_init_22 : decode cX8_init 22 = .ok (.return_, 1) := by decide +kernel
theorem dX8_holdZeros_0 : decode cX8_holdZeros 0 = .ok (.aload_n 0, 1) := by decide +kernel
theorem dX8_holdZeros_1 : decode cX8_holdZeros 1 = .ok (.iconst 1, 1) := by decide +kernel
theorem dX8_holdZeros_2 : decode cX8_holdZeros 2 = .ok (.putfield 11, 3) := by decide +kernel
theorem dX8_holdZeros_5 : decode cX8_holdZeros 5 = .ok (.aload_n 0, 1) := by decide +kernel
theorem dX8_holdZeros_6 : decode cX8_holdZeros 6 = .ok (.iload_n 1, 1) := by decide +kernel
theorem dX8_holdZeros_7 : decode cX8_holdZeros 7 = .ok (.putfield 15, 3) := by decide +kernel
theorem dX8_holdZeros_10 : decode cX8_holdZeros 10 = .ok (.aload_n 0, 1) := by decide +kernel
theorem dX8_holdZeros_11 : decode cX8_holdZeros 11 = .ok (.getfield 18, 3) := by decide +kernel
theorem dX8_holdZeros_14 : decode cX8_holdZeros 14 = .ok (.iconst 0, 1) := by decide +kernel
theorem dX8_holdZeros_15 : decode cX8_holdZeros 15 = .ok (.invokestatic 22, 3) := by decide +kernel
theorem dX8_holdZeros_18 : decode cX8_holdZeros 18 = .ok (.return_, 1) := by decide +kernel
theorem dX8_holdPolynomial_0 : decode cX8_holdPolynomial 0 = .ok (.aload_n 0, 1) := by decide +kernel
theorem dX8_holdPolynomial_1 : decode cX8_holdPolynomial 1 = .ok (.iconst 2, 1) := by decide +kernel
theorem dX8_holdPolynomial_2 : decode cX8_holdPolynomial 2 = .ok (.putfield 11, 3) := by decide +kernel
theorem dX8_holdPolynomial_5 : decode cX8_holdPolynomial 5 = .ok (.aload_n 0, 1) := by decide +kernel
theorem dX8_holdPolynomial_6 : decode cX8_holdPolynomial 6 = .ok (.bipush 81, 2) := by decide +kernel
theorem dX8_holdPolynomial_8 : decode cX8_holdPolynomial 8 = .ok (.putfield 15, 3) := by decide +kernel
theorem dX8_holdPolynomial_11 : decode cX8_holdPolynomial 11 = .ok (.aload_n 1, 1) := by decide +kernel
theorem dX8_holdPolynomial_12 : decode cX8_holdPolynomial 12 = .ok (.getfield 28, 3) := by decide +kernel
theorem dX8_holdPolynomial_15 : decode cX8_holdPolynomial 15 = .ok (.iconst 0, 1) := by decide +kernel
theorem dX8_holdPolynomial_16 : decode cX8_holdPolynomial 16 = .ok (.aload_n 0, 1) := by decide +kernel
theorem dX8_holdPolynomial_17 : decode cX8_holdPolynomial 17 = .ok (.getfield 18, 3) := by decide +kernel
theorem dX8_holdPolynomial_20 : decode cX8_holdPolynomial 20 = .ok (.iconst 0, 1) := by decide +kernel
theorem dX8_holdPolynomial_21 : decode cX8_holdPolynomial 21 = .ok (.bipush 81, 2) := by decide +kernel
theorem dX8_holdPolynomial_23 : decode cX8_holdPolynomial 23 = .ok (.invokestatic 33, 3) := by decide +kernel
theorem dX8_holdPolynomial_26 : decode cX8_holdPolynomial 26 = .ok (.return_, 1) := by decide +kernel
theorem dX8_errorForArrays_0 : decode cX8_errorForArrays 0 = .ok (.aload_n 0, 1) := by decide +kernel
theorem dX8_errorForArrays_1 : decode cX8_errorForArrays 1 = .ok (.getfield 11, 3) := by decide +kernel
theorem dX8_errorForArrays_4 : decode cX8_errorForArrays 4 = .ok (.ifCond .ne 8, 3) := by decide +kernel
theorem dX8_errorForArrays_7 : decode cX8_errorForArrays 7 = .ok (.bipush (-6), 2) := by decide +kernel
theorem dX8_errorForArrays_9 : decode cX8_errorForArrays 9 = .ok (.goto 5, 3) := by decide +kernel
theorem dX8_errorForArrays_12 : decode cX8_errorForArrays 12 = .ok (.bipush (-7), 2) := by decide +kernel
theorem dX8_errorForArrays_14 : decode cX8_errorForArrays 14 = .ok (.ireturn, 1) := by decide +kernel
theorem dX9_init_0 : decode cX9_init 0 = .ok (.aload_n 0, 1) := by decide +kernel
theorem dX9_init_1 : decode cX9_init 1 = .ok (.invokespecial 3, 3) := by decide +kernel
theorem dX9_init_4 : decode cX9_init 4 = .ok (.aload_n 0, 1) := by decide +kernel
theorem dX9_init_5 : decode cX9_init 5 = .ok (.new 9, 3) := by decide +kernel
theorem dX9_init_8 : decode cX9_init 8 = .ok (.dup, 1) := by decide +kernel
theorem dX9_init_9 : decode cX9_init 9 = .ok (.invokespecial 11, 3) := by decide +kernel
theorem dX9_init_12 : decode cX9_init 12 = .ok (.putfield 12, 3) := by decide +kernel
theorem dX9_init_15 : decode cX9_init 15 = .ok (.aload_n 0, 1) := by decide +kernel
theorem dX9_init_16 : decode cX9_init 16 = .ok (.new 16, 3) := by decide +kernel
theorem dX9_init_19 : decode cX9_init 19 = .ok (.dup, 1) := by decide +kernel
theorem dX9_init_20 : decode cX9_init 20 = .ok (.invokespecial 18, 3) := by decide +kernel
theorem dX9_init_23 : decode cX9_init 23 = .ok (.putfield 19, 3) := by decide +kernel
theorem dX9_init_26 : decode cX9_init 26 = .ok (.aload_n 0, 1) := by decide +kernel
theorem dX9_init_27 : decode cX9_init 27 = .ok (.new 9, 3) := by decide +kernel
theorem dX9_init_30 : decode cX9_init 30 = .ok (.dup, 1) := by decide +kernel
theorem dX9_init_31 : decode cX9_init 31 = .ok (.invokespecial 11, 3) := by decide +kernel
theorem dX9_init_34 : decode cX9_init 34 = .ok (.putfield 23, 3) := by decide +kernel
theorem dX9_init_37 : decode cX9_init 37 = .ok (.aload_n 0, 1) := by decide +kernel
theorem dX9_init_38 : decode cX9_init 38 = .ok (.new 16, 3) := by decide +kernel
theorem dX9_init_41 : decode cX9_init 41 = .ok (.dup, 1) := by decide +kernel
theorem dX9_init_42 : decode cX9_init 42 = .ok (.invokespecial 18, 3) := by decide +kernel
theorem dX9_init_45 : decode cX9_init 45 = .ok (.putfield 26, 3) := by decide +kernel
theorem dX9_init_48 : decode cX9_init 48 = .ok (.aload_n 0, 1) := by decide +kernel
theorem dX9_init_49 : decode cX9_init 49 = .ok (.iconst 0, 1) := by decide +kernel
theorem dX9_init_50 : decode cX9_init 50 = .ok (.putfield 29, 3) := by decide +kernel
theorem dX9_init_53 : decode cX9_init 53 = .ok (.aload_n 0, 1) := by decide +kernel
theorem dX9_init_54 : decode cX9_init 54 = .ok (.new 33, 3) := by decide +kernel
theorem dX9_init_57 : decode cX9_init 57 = .ok (.dup, 1) := by decide +kernel
theorem dX9_init_58 : decode cX9_init 58 = .ok (.aload_n 0, 1) := by decide +kernel
theorem dX9_init_59 : decode cX9_init 59 = .ok (.getfield 12, 3) := by decide +kernel
theorem dX9_init_62 : decode cX9_init 62 = .ok (.invokespecial 35, 3) := by decide +kernel
theorem dX9_init_65 : decode cX9_init 65 = .ok (.putfield 38, 3) := by decide +kernel
theorem dX9_init_68 : decode cX9_init 68 = .ok (.aload_n 0, 1) := by decide +kernel
theorem dX9_init_69 : decode cX9_init 69 = .ok (.new 42, 3) := by decide +kernel
theorem dX9_init_72 : decode cX9_init 72 = .ok (.dup, 1) := by decide +kernel
theorem dX9_init_73 : decode cX9_init 73 = .ok (.invokespecial 44, 3) := by decide +kernel
theorem dX9_init_76 : decode cX9_init 76 = .ok (.putfield 45, 3) := by decide +kernel
theorem dX9_init_79 : decode cX9_init 79 = .ok (.aload_n 0, 1) := by decide +kernel
theorem dX9_init_80 : decode cX9_init 80 = .ok (.new 49, 3) := by decide +kernel
theorem dX9_init_83 : decode cX9_init 83 = .ok (.dup, 1) := by decide +kernel
theorem dX9_init_84 : decode cX9_init 84 = .ok (.invokespecial 51, 3) := by decide +kernel
theorem dX9_init_87 : decode cX9_init 87 = .ok (.putfield 52, 3) := by decide +kernel
theorem dX9_init_90 : decode cX9_init 90 = .ok (.aload_n 0, 1) := by decide +kernel
theorem dX9_init_91 : decode cX9_init 91 = .ok (.new 56, 3) := by decide +kernel
theorem dX9_init_94 : decode cX9_init 94 = .ok (.dup, 1) := by decide +kernel
theorem dX9_init_95 : decode cX9_init 95 = .ok (.invokespecial 58, 3) := by decide +kernel
theorem dX9_init_98 : decode cX9_init 98 = .ok (.putfield 59, 3) := by decide +kernel
theorem dX9_init_101 : decode cX9_init 101 = .ok (.aload_n 0, 1) := by decide +kernel
theorem dX9_init_102 : decode cX9_init 102 = .ok (.new 63, 3) := by decide +kernel
theorem dX9_init_105 : decode cX9_init 105 = .ok (.dup, 1) := by decide +kernel
theorem dX9_init_106 : decode cX9_init 106 = .ok (.invokespecial 65, 3) := by decide +kernel
theorem dX9_init_109 : decode cX9_init 109 = .ok (.putfield 66, 3) := by decide +kernel
theorem dX9_init_112 : decode cX9_init 112 = .ok (.aload_n 0, 1) := by decide +kernel
theorem dX9_init_113 : decode cX9_init 113 = .ok (.new 70, 3) := by decide +kernel
theorem dX9_init_116 : decode cX9_init 116 = .ok (.dup, 1) := by decide +kernel
theorem dX9_init_117 : decode cX9_init 117 = .ok (.invokespecial 72, 3) := by decide +kernel
theorem dX9_init_120 : decode cX9_init 120 = .ok (.putfield 73, 3) := by decide +kernel
theorem dX9_init_123 : decode cX9_init 123 = .ok (.aload_n 0, 1) := by decide +kernel
theorem dX9_init_124 : decode cX9_init 124 = .ok (.iconst 4, 1) := by decide +kernel
theorem dX9_init_125 : decode cX9_init 125 = .ok (.anewarray 77, 3) := by decide +kernel
theorem dX9_init_128 : decode cX9_init 128 = .ok (.putfield 79, 3) := by decide +kernel
theorem dX9_init_131 : decode cX9_init 131 = .ok (.iconst 0, 1) := by decide +kernel
theorem dX9_init_132 : decode cX9_init 132 = .ok (.istore_n 1, 1) := by decide +kernel
theorem dX9_init_133 : decode cX9_init 133 = .ok (.iload_n 1, 1) := by decide +kernel
theorem dX9_init_134 : decode cX9_init 134 = .ok (.iconst 4, 1) := by decide +kernel
theorem dX9_init_135 : decode cX9_init 135 = .ok (.if_icmp .ge 22, 3) := by decide +kernel
theorem dX9_init_138 : decode cX9_init 138 = .ok (.aload_n 0, 1) := by decide +kernel
theorem dX9_init_139 : decode cX9_init 139 = .ok (.getfield 79, 3) := by decide +kernel
theorem dX9_init_142 : decode cX9_init 142 = .ok (.iload_n 1, 1) := by decide +kernel
theorem dX9_init_143 : decode cX9_init 143 = .ok (.new 77, 3) := by decide +kernel
theorem dX9_init_146 : decode cX9_init 146 = .ok (.dup, 1) := by decide +kernel
theorem dX9_init_147 : decode cX9_init 147 = .ok (.invokespecial 83, 3) := by decide +kernel
theorem dX9_init_150 : decode cX9_init 150 = .ok (.aastore, 1) := by decide +kernel
theorem dX9_init_151 : decode cX9_init 151 = .ok (.iinc 1 1, 3) := by decide +kernel
theorem dX9_init_154 : decode cX9_init 154 = .ok (.goto (-21), 3) := by decide +kernel
theorem dX9_init_157 : decode cX9_init 157 = .ok (.return_, 1) := by decide +kernel
theorem dX9_setPrime_0 : decode cX9_setPrime 0 = .ok (.iload_n 1, 1) := by decide +kernel
theorem dX9_setPrime_1 : decode cX9_setPrime 1 = .ok (.invokestatic 84, 3) := by decide +kernel
theorem dX9_setPrime_4 : decode cX9_setPrime 4 = .ok (.ifCond .ne 6, 3) := by decide +kernel
theorem dX9_setPrime_7 : decode cX9_setPrime 7 = .ok (.bipush (-2), 2) := by decide +kernel
theorem dX9_setPrime_9 : decode cX9_setPrime 9 = .ok (.ireturn, 1) := by decide +kernel
theorem dX9_setPrime_10 : decode cX9_setPrime 10 = .ok (.aload_n 0, 1) := by decide +kernel
theorem dX9_setPrime_11 : decode cX9_setPrime 11 = .ok (.getfield 12, 3) := by decide +kernel
theorem dX9_setPrime_14 : decode cX9_setPrime 14 = .ok (.getfield 88, 3) := by decide +kernel
theorem dX9_setPrime_17 : decode cX9_setPrime 17 = .ok (.istore_n 2, 1) := by decide +kernel
theorem dX9_setPrime_18 : decode cX9_setPrime 18 = .ok (.aload_n 0, 1) := by decide +kernel
theorem dX9_setPrime_19 : decode cX9_setPrime 19 = .ok (.getfield 12, 3) := by decide +kernel
theorem dX9_setPrime_22 : decode cX9_setPrime 22 = .ok (.iload_n 1, 1) := by decide +kernel
theorem dX9_setPrime_23 : decode cX9_setPrime 23 = .ok (.invokevirtual 92, 3) := by decide +kernel
theorem dX9_setPrime_26 : decode cX9_setPrime 26 = .ok (.aload_n 0, 1) := by decide +kernel
theorem dX9_setPrime_27 : decode cX9_setPrime 27 = .ok (.getfield 19, 3) := by decide +kernel
theorem dX9_setPrime_30 : decode cX9_setPrime 30 = .ok (.invokevirtual 96, 3) := by decide +kernel
theorem dX9_setPrime_33 : decode cX9_setPrime 33 = .ok (.aload_n 0, 1) := by decide +kernel
theorem dX9_setPrime_34 : decode cX9_setPrime 34 = .ok (.getfield 59, 3) := by decide +kernel
theorem dX9_setPrime_37 : decode cX9_setPrime 37 = .ok (.invokevirtual 99, 3) := by decide +kernel
theorem dX9_setPrime_40 : decode cX9_setPrime 40 = .ok (.iload_n 2, 1) := by decide +kernel
theorem dX9_setPrime_41 : decode cX9_setPrime 41 = .ok (.ireturn, 1) := by decide +kernel
theorem dX9_prime_0 : decode cX9_prime 0 = .ok (.aload_n 0, 1) := by decide +kernel
theorem dX9_prime_1 : decode cX9_prime 1 = .ok (.getfield 12, 3) := by decide +kernel
theorem dX9_prime_4 : decode cX9_prime 4 = .ok (.getfield 88, 3) := by decide +kernel
theorem dX9_prime_7 : decode cX9_prime 7 = .ok (.ireturn, 1) := by decide +kernel
theorem dX9_addPoint_0 : decode cX9_addPoint 0 = .ok (.aload_n 0, 1) := by decide +kernel
theorem dX9_addPoint_1 : decode cX9_addPoint 1 = .ok (.getfield 12, 3) := by decide +kernel
theorem dX9_addPoint_4 : decode cX9_addPoint 4 = .ok (.iload_n 1, 1) := by decide +kernel
theorem dX9_addPoint_5 : decode cX9_addPoint 5 = .ok (.invokevirtual 102, 3) := by decide +kernel
theorem dX9_addPoint_8 : decode cX9_addPoint 8 = .ok (.ifCond .eq 14, 3) := by decide +kernel
theorem dX9_addPoint_11 : decode cX9_addPoint 11 = .ok (.aload_n 0, 1) := by decide +kernel
theorem dX9_addPoint_12 : decode cX9_addPoint 12 = .ok (.getfield 12, 3) := by decide +kernel
theorem dX9_addPoint_15 : decode cX9_addPoint 15 = .ok (.iload_n 2, 1) := by decide +kernel
theorem dX9_addPoint_16 : decode cX9_addPoint 16 = .ok (.invokevirtual 102, 3) := by decide +kernel
theorem dX9_addPoint_19 : decode cX9_addPoint 19 = .ok (.ifCond .ne 6, 3) := by decide +kernel
theorem dX9_addPoint_22 : decode cX9_addPoint 22 = .ok (.bipush (-2), 2) := by decide +kernel
theorem dX9_addPoint_24 : decode cX9_addPoint 24 = .ok (.ireturn, 1) := by decide +kernel
theorem dX9_addPoint_25 : decode cX9_addPoint 25 = .ok (.aload_n 0, 1) := by decide +kernel
theorem dX9_addPoint_26 : decode cX9_addPoint 26 = .ok (.getfield 12, 3) := by decide +kernel
theorem dX9_addPoint_29 : decode cX9_addPoint 29 = .ok (.iload_n 1, 1) := by decide +kernel
theorem dX9_addPoint_30 : decode cX9_addPoint 30 = .ok (.iload_n 2, 1) := by decide +kernel
theorem dX9_addPoint_31 : decode cX9_addPoint 31 = .ok (.invokevirtual 105, 3) := by decide +kernel
theorem dX9_addPoint_34 : decode cX9_addPoint 34 = .ok (.ifCond .eq 6, 3) := by decide +kernel
theorem dX9_addPoint_37 : decode cX9_addPoint 37 = .ok (.bipush (-3), 2) := by decide +kernel
theorem dX9_addPoint_39 : decode cX9_addPoint 39 = .ok (.ireturn, 1) := by decide +kernel
theorem dX9_addPoint_40 : decode cX9_addPoint 40 = .ok (.aload_n 0, 1) := by decide +kernel
theorem dX9_addPoint_41 : decode cX9_addPoint 41 = .ok (.getfield 12, 3) := by decide +kernel
theorem dX9_addPoint_44 : decode cX9_addPoint 44 = .ok (.getfield 109, 3) := by decide +kernel
theorem dX9_addPoint_47 : decode cX9_addPoint 47 = .ok (.bipush 8, 2) := by decide +kernel
theorem dX9_addPoint_49 : decode cX9_addPoint 49 = .ok (.if_icmp .lt 6, 3) := by decide +kernel
theorem dX9_addPoint_52 : decode cX9_addPoint 52 = .ok (.bipush (-4), 2) := by decide +kernel
theorem dX9_addPoint_54 : decode cX9_addPoint 54 = .ok (.ireturn, 1) := by decide +kernel
theorem dX9_addPoint_55 : decode cX9_addPoint 55 = .ok (.aload_n 0, 1) := by decide +kernel
theorem dX9_addPoint_56 : decode cX9_addPoint 56 = .ok (.getfield 12, 3) := by decide +kernel
theorem dX9_addPoint_59 : decode cX9_addPoint 59 = .ok (.iload_n 1, 1) := by decide +kernel
theorem dX9_addPoint_60 : decode cX9_addPoint 60 = .ok (.iload_n 2, 1) := by decide +kernel
theorem dX9_addPoint_61 : decode cX9_addPoint 61 = .ok (.invokevirtual 112, 3) := by decide +kernel
theorem dX9_addPoint_64 : decode cX9_addPoint 64 = .ok (.aload_n 0, 1) := by decide +kernel
theorem dX9_addPoint_65 : decode cX9_addPoint 65 = .ok (.getfield 59, 3) := by decide +kernel
theorem dX9_addPoint_68 : decode cX9_addPoint 68 = .ok (.invokevirtual 99, 3) := by decide +kernel
theorem dX9_addPoint_71 : decode cX9_addPoint 71 = .ok (.aload_n 0, 1) := by decide +kernel
theorem dX9_addPoint_72 : decode cX9_addPoint 72 = .ok (.getfield 12, 3) := by decide +kernel
theorem dX9_addPoint_75 : decode cX9_addPoint 75 = .ok (.getfield 109, 3) := by decide +kernel
theorem dX9_addPoint_78 : decode cX9_addPoint 78 = .ok (.ireturn, 1) := by decide +kernel
theorem dX9_removePoint_0 : decode cX9_removePoint 0 = .ok (.aload_n 0, 1) := by decide +kernel
theorem dX9_removePoint_1 : decode cX9_removePoint 1 = .ok (.getfield 12, 3) := by decide +kernel
theorem dX9_removePoint_4 : decode cX9_removePoint 4 = .ok (.iload_n 1, 1) := by decide +kernel
theorem dX9_removePoint_5 : decode cX9_removePoint 5 = .ok (.invokevirtual 116, 3) := by decide +kernel
theorem dX9_removePoint_8 : decode cX9_removePoint 8 = .ok (.ifCond .ne 5, 3) := by decide +kernel
theorem dX9_removePoint_11 : decode cX9_removePoint 11 = .ok (.iconst (-1), 1) := by decide +kernel
theorem dX9_removePoint_12 : decode cX9_removePoint 12 = .ok (.ireturn, 1) := by decide +kernel
theorem dX9_removePoint_13 : decode cX9_removePoint 13 = .ok (.aload_n 0, 1) := by decide +kernel
theorem dX9_removePoint_14 : decode cX9_removePoint 14 = .ok (.getfield 12, 3) := by decide +kernel
theorem dX9_removePoint_17 : decode cX9_removePoint 17 = .ok (.iload_n 1, 1) := by decide +kernel
theorem dX9_removePoint_18 : decode cX9_removePoint 18 = .ok (.invokevirtual 119, 3) := by decide +kernel
theorem dX9_removePoint_21 : decode cX9_removePoint 21 = .ok (.aload_n 0, 1) := by decide +kernel
theorem dX9_removePoint_22 : decode cX9_removePoint 22 = .ok (.getfield 59, 3) := by decide +kernel
theorem dX9_removePoint_25 : decode cX9_removePoint 25 = .ok (.invokevirtual 99, 3) := by decide +kernel
theorem dX9_removePoint_28 : decode cX9_removePoint 28 = .ok (.aload_n 0, 1) := by decide +kernel
theorem dX9_removePoint_29 : decode cX9_removePoint 29 = .ok (.getfield 12, 3) := by decide +kernel
theorem dX9_removePoint_32 : decode cX9_removePoint 32 = .ok (.getfield 109, 3) := by decide +kernel
theorem dX9_removePoint_35 : decode cX9_removePoint 35 = .ok (.ireturn, 1) := by decide +kernel
theorem dX9_pointCount_0 : decode cX9_pointCount 0 = .ok (.aload_n 0, 1) := by decide +kernel
theorem dX9_pointCount_1 : decode cX9_pointCount 1 = .ok (.getfield 12, 3) := by decide +kernel
theorem dX9_pointCount_4 : decode cX9_pointCount 4 = .ok (.getfield 109, 3) := by decide +kernel
theorem dX9_pointCount_7 : decode cX9_pointCount 7 = .ok (.ireturn, 1) := by decide +kernel
theorem dX9_pointX_0 : decode cX9_pointX 0 = .ok (.aload_n 0, 1) := by decide +kernel
theorem dX9_pointX_1 : decode cX9_pointX 1 = .ok (.getfield 12, 3) := by decide +kernel
theorem dX9_pointX_4 : decode cX9_pointX 4 = .ok (.iload_n 1, 1) := by decide +kernel
theorem dX9_pointX_5 : decode cX9_pointX 5 = .ok (.invokevirtual 116, 3) := by decide +kernel
theorem dX9_pointX_8 : decode cX9_pointX 8 = .ok (.ifCond .eq 15, 3) := by decide +kernel
theorem dX9_pointX_11 : decode cX9_pointX 11 = .ok (.aload_n 0, 1) := by decide +kernel
theorem dX9_pointX_12 : decode cX9_pointX 12 = .ok (.getfield 12, 3) := by decide +kernel
theorem dX9_pointX_15 : decode cX9_pointX 15 = .ok (.getfield 122, 3) := by decide +kernel
theorem dX9_pointX_18 : decode cX9_pointX 18 = .ok (.iload_n 1, 1) := by decide +kernel
theorem dX9_pointX_19 : decode cX9_pointX 19 = .ok (.iaload, 1) := by decide +kernel
theorem dX9_pointX_20 : decode cX9_pointX 20 = .ok (.goto 4, 3) := by decide +kernel
theorem dX9_pointX_23 : decode cX9_pointX 23 = .ok (.iconst (-1), 1) := by decide +kernel
theorem dX9_pointX_24 : decode cX9_pointX 24 = .ok (.ireturn, 1) := by decide +kernel
theorem dX9_pointY_0 : decode cX9_pointY 0 = .ok (.aload_n 0, 1) := by decide +kernel
theorem dX9_pointY_1 : decode cX9_pointY 1 = .ok (.getfield 12, 3) := by decide +kernel
theorem dX9_pointY_4 : decode cX9_pointY 4 = .ok (.iload_n 1, 1) := by decide +kernel
theorem dX9_pointY_5 : decode cX9_pointY 5 = .ok (.invokevirtual 116, 3) := by decide +kernel
theorem dX9_pointY_8 : decode cX9_pointY 8 = .ok (.ifCond .eq 15, 3) := by decide +kernel
theorem dX9_pointY_11 : decode cX9_pointY 11 = .ok (.aload_n 0, 1) := by decide +kernel
theorem dX9_pointY_12 : decode cX9_pointY 12 = .ok (.getfield 12, 3) := by decide +kernel
theorem dX9_pointY_15 : decode cX9_pointY 15 = .ok (.getfield 126, 3) := by decide +kernel
theorem dX9_pointY_18 : decode cX9_pointY 18 = .ok (.iload_n 1, 1) := by decide +kernel
theorem dX9_pointY_19 : decode cX9_pointY 19 = .ok (.iaload, 1) := by decide +kernel
theorem dX9_pointY_20 : decode cX9_pointY 20 = .ok (.goto 4, 3) := by decide +kernel
theorem dX9_pointY_23 : decode cX9_pointY 23 = .ok (.iconst (-1), 1) := by decide +kernel
theorem dX9_pointY_24 : decode cX9_pointY 24 = .ok (.ireturn, 1) := by decide +kernel
theorem dX9_swapCoordinates_0 : decode cX9_swapCoordinates 0 = .ok (.aload_n 0, 1) := by decide +kernel
theorem dX9_swapCoordinates_1 : decode cX9_swapCoordinates 1 = .ok (.getfield 12, 3) := by decide +kernel
theorem dX9_swapCoordinates_4 : decode cX9_swapCoordinates 4 = .ok (.invokevirtual 129, 3) := by decide +kernel
theorem dX9_swapCoordinates_7 : decode cX9_swapCoordinates 7 = .ok (.istore_n 1, 1) := by decide +kernel
theorem dX9_swapCoordinates_8 : decode cX9_swapCoordinates 8 = .ok (.aload_n 0, 1) := by decide +kernel
theorem dX9_swapCoordinates_9 : decode cX9_swapCoordinates 9 = .ok (.getfield 12, 3) := by decide +kernel
theorem dX9_swapCoordinates_12 : decode cX9_swapCoordinates 12 = .ok (.invokevirtual 133, 3) := by decide +kernel
theorem dX9_swapCoordinates_15 : decode cX9_swapCoordinates 15 = .ok (.aload_n 0, 1) := by decide +kernel
theorem dX9_swapCoordinates_16 : decode cX9_swapCoordinates 16 = .ok (.getfield 59, 3) := by decide +kernel
theorem dX9_swapCoordinates_19 : decode cX9_swapCoordinates 19 = .ok (.invokevirtual 99, 3) := by decide +kernel
theorem dX9_swapCoordinates_22 : decode cX9_swapCoordinates 22 = .ok (.iload_n 1, 1) := by decide +kernel
theorem dX9_swapCoordinates_23 : decode cX9_swapCoordinates 23 = .ok (.ifCond .eq 7, 3) := by decide +kernel
theorem dX9_swapCoordinates_26 : decode cX9_swapCoordinates 26 = .ok (.iconst 1, 1) := by decide +kernel
theorem dX9_swapCoordinates_27 : decode cX9_swapCoordinates 27 = .ok (.goto 4, 3) := by decide +kernel
theorem dX9_swapCoordinates_30 : decode cX9_swapCoordinates 30 = .ok (.iconst 0, 1) := by decide +kernel
theorem dX9_swapCoordinates_31 : decode cX9_swapCoordinates 31 = .ok (.ireturn, 1) := by decide +kernel
theorem dX9_translate_0 : decode cX9_translate 0 = .ok (.aload_n 0, 1) := by decide +kernel
theorem dX9_translate_1 : decode cX9_translate 1 = .ok (.getfield 12, 3) := by decide +kernel
theorem dX9_translate_4 : decode cX9_translate 4 = .ok (.iload_n 1, 1) := by decide +kernel
theorem dX9_translate_5 : decode cX9_translate 5 = .ok (.invokevirtual 102, 3) := by decide +kernel
theorem dX9_translate_8 : decode cX9_translate 8 = .ok (.ifCond .eq 14, 3) := by decide +kernel
theorem dX9_translate_11 : decode cX9_translate 11 = .ok (.aload_n 0, 1) := by decide +kernel
theorem dX9_translate_12 : decode cX9_translate 12 = .ok (.getfield 12, 3) := by decide +kernel
theorem dX9_translate_15 : decode cX9_translate 15 = .ok (.iload_n 2, 1) := by decide +kernel
theorem dX9_translate_16 : decode cX9_translate 16 = .ok (.invokevirtual 102, 3) := by decide +kernel
theorem dX9_translate_19 : decode cX9_translate 19 = .ok (.ifCond .ne 6, 3) := by decide +kernel
theorem dX9_translate_22 : decode cX9_translate 22 = .ok (.bipush (-2), 2) := by decide +kernel
theorem dX9_translate_24 : decode cX9_translate 24 = .ok (.ireturn, 1) := by decide +kernel
theorem dX9_translate_25 : decode cX9_translate 25 = .ok (.aload_n 0, 1) := by decide +kernel
theorem dX9_translate_26 : decode cX9_translate 26 = .ok (.getfield 12, 3) := by decide +kernel
theorem dX9_translate_29 : decode cX9_translate 29 = .ok (.iconst 1, 1) := by decide +kernel
theorem dX9_translate_30 : decode cX9_translate 30 = .ok (.iload_n 1, 1) := by decide +kernel
theorem dX9_translate_31 : decode cX9_translate 31 = .ok (.iconst 1, 1) := by decide +kernel
theorem dX9_translate_32 : decode cX9_translate 32 = .ok (.iload_n 2, 1) := by decide +kernel
theorem dX9_translate_33 : decode cX9_translate 33 = .ok (.invokevirtual 136, 3) := by decide +kernel
theorem dX9_translate_36 : decode cX9_translate 36 = .ok (.aload_n 0, 1) := by decide +kernel
theorem dX9_translate_37 : decode cX9_translate 37 = .ok (.getfield 59, 3) := by decide +kernel
theorem dX9_translate_40 : decode cX9_translate 40 = .ok (.invokevirtual 99, 3) := by decide +kernel
theorem dX9_translate_43 : decode cX9_translate 43 = .ok (.aload_n 0, 1) := by decide +kernel
theorem dX9_translate_44 : decode cX9_translate 44 = .ok (.getfield 12, 3) := by decide +kernel
theorem dX9_translate_47 : decode cX9_translate 47 = .ok (.getfield 109, 3) := by decide +kernel
theorem dX9_translate_50 : decode cX9_translate 50 = .ok (.ireturn, 1) := by decide +kernel
theorem dX9_scale_0 : decode cX9_scale 0 = .ok (.iload_n 1, 1) := by decide +kernel
theorem dX9_scale_1 : decode cX9_scale 1 = .ok (.ifCond .eq 29, 3) := by decide +kernel
theorem dX9_scale_4 : decode cX9_scale 4 = .ok (.iload_n 2, 1) := by decide +kernel
theorem dX9_scale_5 : decode cX9_scale 5 = .ok (.ifCond .eq 25, 3) := by decide +kernel
theorem dX9_scale_8 : decode cX9_scale 8 = .ok (.aload_n 0, 1) := by decide +kernel
theorem dX9_scale_9 : decode cX9_scale 9 = .ok (.getfield 12, 3) := by decide +kernel
theorem dX9_scale_12 : decode cX9_scale 12 = .ok (.iload_n 1, 1) := by decide +kernel
theorem dX9_scale_13 : decode cX9_scale 13 = .ok (.invokevirtual 102, 3) := by decide +kernel
theorem dX9_scale_16 : decode cX9_scale 16 = .ok (.ifCond .eq 14, 3) := by decide +kernel
theorem dX9_scale_19 : decode cX9_scale 19 = .ok (.aload_n 0, 1) := by decide +kernel
theorem dX9_scale_20 : decode cX9_scale 20 = .ok (.getfield 12, 3) := by decide +kernel
theorem dX9_scale_23 : decode cX9_scale 23 = .ok (.iload_n 2, 1) := by decide +kernel
theorem dX9_scale_24 : decode cX9_scale 24 = .ok (.invokevirtual 102, 3) := by decide +kernel
theorem dX9_scale_27 : decode cX9_scale 27 = .ok (.ifCond .ne 6, 3) := by decide +kernel
theorem dX9_scale_30 : decode cX9_scale 30 = .ok (.bipush (-2), 2) := by decide +kernel
theorem dX9_scale_32 : decode cX9_scale 32 = .ok (.ireturn, 1) := by decide +kernel
theorem dX9_scale_33 : decode cX9_scale 33 = .ok (.aload_n 0, 1) := by decide +kernel
theorem dX9_scale_34 : decode cX9_scale 34 = .ok (.getfield 12, 3) := by decide +kernel
theorem dX9_scale_37 : decode cX9_scale 37 = .ok (.iload_n 1, 1) := by decide +kernel
theorem dX9_scale_38 : decode cX9_scale 38 = .ok (.iconst 0, 1) := by decide +kernel
theorem dX9_scale_39 : decode cX9_scale 39 = .ok (.iload_n 2, 1) := by decide +kernel
theorem dX9_scale_40 : decode cX9_scale 40 = .ok (.iconst 0, 1) := by decide +kernel
theorem dX9_scale_41 : decode cX9_scale 41 = .ok (.invokevirtual 136, 3) := by decide +kernel
theorem dX9_scale_44 : decode cX9_scale 44 = .ok (.aload_n 0, 1) := by decide +kernel
theorem dX9_scale_45 : decode cX9_scale 45 = .ok (.getfield 59, 3) := by decide +kernel
theorem dX9_scale_48 : decode cX9_scale 48 = .ok (.invokevirtual 99, 3) := by decide +kernel
theorem dX9_scale_51 : decode cX9_scale 51 = .ok (.aload_n 0, 1) := by decide +kernel
theorem dX9_scale_52 : decode cX9_scale 52 = .ok (.getfield 12, 3) := by decide +kernel
theorem dX9_scale_55 : decode cX9_scale 55 = .ok (.getfield 109, 3) := by decide +kernel
theorem dX9_scale_58 : decode cX9_scale 58 = .ok (.ireturn, 1) := by decide +kernel
theorem dX9_columnHeight_0 : decode cX9_columnHeight 0 = .ok (.iload 4, 2) := by decide +kernel
theorem dX9_columnHeight_2 : decode cX9_columnHeight 2 = .ok (.invokestatic 140, 3) := by decide +kernel
theorem dX9_columnHeight_5 : decode cX9_columnHeight 5 = .ok (.ifCond .ne 5, 3) := by decide +kernel
theorem dX9_columnHeight_8 : decode cX9_columnHeight 8 = .ok (.iconst (-1), 1) := by decide +kernel
theorem dX9_columnHeight_9 : decode cX9_columnHeight 9 = .ok (.ireturn, 1) := by decide +kernel
theorem dX9_columnHeight_10 : decode cX9_columnHeight 10 = .ok (.iload_n 1, 1) := by decide +kernel
theorem dX9_columnHeight_11 : decode cX9_columnHeight 11 = .ok (.iload_n 2, 1) := by decide +kernel
theorem dX9_columnHeight_12 : decode cX9_columnHeight 12 = .ok (.iload_n 3, 1) := by decide +kernel
theorem dX9_columnHeight_13 : decode cX9_columnHeight 13 = .ok (.invokestatic 143, 3) := by decide +kernel
theorem dX9_columnHeight_16 : decode cX9_columnHeight 16 = .ok (.ifCond .ne 6, 3) := by decide +kernel
theorem dX9_columnHeight_19 : decode cX9_columnHeight 19 = .ok (.bipush (-2), 2) := by decide +kernel
theorem dX9_columnHeight_21 : decode cX9_columnHeight 21 = .ok (.ireturn, 1) := by decide +kernel
theorem dX9_columnHeight_22 : decode cX9_columnHeight 22 = .ok (.aload_n 0, 1) := by decide +kernel
theorem dX9_columnHeight_23 : decode cX9_columnHeight 23 = .ok (.iload_n 1, 1) := by decide +kernel
theorem dX9_columnHeight_24 : decode cX9_columnHeight 24 = .ok (.iload_n 2, 1) := by decide +kernel
theorem dX9_columnHeight_25 : decode cX9_columnHeight 25 = .ok (.iload_n 3, 1) := by decide +kernel
theorem dX9_columnHeight_26 : decode cX9_columnHeight 26 = .ok (.invokevirtual 147, 3) := by decide +kernel
theorem dX9_columnHeight_29 : decode cX9_columnHeight 29 = .ok (.aload_n 0, 1) := by decide +kernel
theorem dX9_columnHeight_30 : decode cX9_columnHeight 30 = .ok (.getfield 52, 3) := by decide +kernel
theorem dX9_columnHeight_33 : decode cX9_columnHeight 33 = .ok (.getfield 151, 3) := by decide +kernel
theorem dX9_columnHeight_36 : decode cX9_columnHeight 36 = .ok (.iload 4, 2) := by decide +kernel
theorem dX9_columnHeight_38 : decode cX9_columnHeight 38 = .ok (.iaload, 1) := by decide +kernel
theorem dX9_columnHeight_39 : decode cX9_columnHeight 39 = .ok (.ireturn, 1) := by decide +kernel
theorem dX9_cornerCount_0 : decode cX9_cornerCount 0 = .ok (.iload_n 1, 1) := by decide +kernel
theorem dX9_cornerCount_1 : decode cX9_cornerCount 1 = .ok (.iload_n 2, 1) := by decide +kernel
theorem dX9_cornerCount_2 : decode cX9_cornerCount 2 = .ok (.iload_n 3, 1) := by decide +kernel
theorem dX9_cornerCount_3 : decode cX9_cornerCount 3 = .ok (.invokestatic 143, 3) := by decide +kernel
theorem dX9_cornerCount_6 : decode cX9_cornerCount 6 = .ok (.ifCond .ne 6, 3) := by decide +kernel
theorem dX9_cornerCount_9 : decode cX9_cornerCount 9 = .ok (.bipush (-2), 2) := by decide +kernel
theorem dX9_cornerCount_11 : decode cX9_cornerCount 11 = .ok (.ireturn, 1) := by decide +kernel
theorem dX9_cornerCount_12 : decode cX9_cornerCount 12 = .ok (.aload_n 0, 1) := by decide +kernel
theorem dX9_cornerCount_13 : decode cX9_cornerCount 13 = .ok (.iload_n 1, 1) := by decide +kernel
theorem dX9_cornerCount_14 : decode cX9_cornerCount 14 = .ok (.iload_n 2, 1) := by decide +kernel
theorem dX9_cornerCount_15 : decode cX9_cornerCount 15 = .ok (.iload_n 3, 1) := by decide +kernel
theorem dX9_cornerCount_16 : decode cX9_cornerCount 16 = .ok (.invokevirtual 147, 3) := by decide +kernel
theorem dX9_cornerCount_19 : decode cX9_cornerCount 19 = .ok (.aload_n 0, 1) := by decide +kernel
theorem dX9_cornerCount_20 : decode cX9_cornerCount 20 = .ok (.getfield 52, 3) := by decide +kernel
theorem dX9_cornerCount_23 : decode cX9_cornerCount 23 = .ok (.getfield 154, 3) := by decide +kernel
theorem dX9_cornerCount_26 : decode cX9_cornerCount 26 = .ok (.ireturn, 1) := by decide +kernel
theorem dX9_corner_0 : decode cX9_corner 0 = .ok (.iload_n 1, 1) := by decide +kernel
theorem dX9_corner_1 : decode cX9_corner 1 = .ok (.iload_n 2, 1) := by decide +kernel
theorem dX9_corner_2 : decode cX9_corner 2 = .ok (.iload_n 3, 1) := by decide +kernel
theorem dX9_corner_3 : decode cX9_corner 3 = .ok (.invokestatic 143, 3) := by decide +kernel
theorem dX9_corner_6 : decode cX9_corner 6 = .ok (.ifCond .ne 6, 3) := by decide +kernel
theorem dX9_corner_9 : decode cX9_corner 9 = .ok (.bipush (-2), 2) := by decide +kernel
theorem dX9_corner_11 : decode cX9_corner 11 = .ok (.ireturn, 1) := by decide +kernel
theorem dX9_corner_12 : decode cX9_corner 12 = .ok (.aload_n 0, 1) := by decide +kernel
theorem dX9_corner_13 : decode cX9_corner 13 = .ok (.iload_n 1, 1) := by decide +kernel
theorem dX9_corner_14 : decode cX9_corner 14 = .ok (.iload_n 2, 1) := by decide +kernel
theorem dX9_corner_15 : decode cX9_corner 15 = .ok (.iload_n 3, 1) := by decide +kernel
theorem dX9_corner_16 : decode cX9_corner 16 = .ok (.invokevirtual 147, 3) := by decide +kernel
theorem dX9_corner_19 : decode cX9_corner 19 = .ok (.aload_n 0, 1) := by decide +kernel
theorem dX9_corner_20 : decode cX9_corner 20 = .ok (.getfield 52, 3) := by decide +kernel
theorem dX9_corner_23 : decode cX9_corner 23 = .ok (.iload 4, 2) := by decide +kernel
theorem dX9_corner_25 : decode cX9_corner 25 = .ok (.invokevirtual 155, 3) := by decide +kernel
theorem dX9_corner_28 : decode cX9_corner 28 = .ok (.astore 5, 2) := by decide +kernel
theorem dX9_corner_30 : decode cX9_corner 30 = .ok (.aload 5, 2) := by decide +kernel
theorem dX9_corner_32 : decode cX9_corner 32 = .ok (.ifnonnull 7, 3) := by decide +kernel
theorem dX9_corner_35 : decode cX9_corner 35 = .ok (.iconst (-1), 1) := by decide +kernel
theorem dX9_corner_36 : decode cX9_corner 36 = .ok (.goto 11, 3) := by decide +kernel
theorem dX9_corner_39 : decode cX9_corner 39 = .ok (.aload 5, 2) := by decide +kernel
theorem dX9_corner_41 : decode cX9_corner 41 = .ok (.getfield 159, 3) := by decide +kernel
theorem dX9_corner_44 : decode cX9_corner 44 = .ok (.invokestatic 164, 3) := by decide +kernel
theorem dX9_corner_47 : decode cX9_corner 47 = .ok (.ireturn, 1) := by decide +kernel
theorem dX9_coneCount_0 : decode cX9_coneCount 0 = .ok (.aload_n 0, 1) := by decide +kernel
theorem dX9_coneCount_1 : decode cX9_coneCount 1 = .ok (.invokevirtual 168, 3) := by decide +kernel
theorem dX9_coneCount_4 : decode cX9_coneCount 4 = .ok (.aload_n 0, 1) := by decide +kernel
theorem dX9_coneCount_5 : decode cX9_coneCount 5 = .ok (.getfield 59, 3) := by decide +kernel
theorem dX9_coneCount_8 : decode cX9_coneCount 8 = .ok (.getfield 171, 3) := by decide +kernel
theorem dX9_coneCount_11 : decode cX9_coneCount 11 = .ok (.ireturn, 1) := by decide +kernel
theorem dX9_wallNumerator_0 : decode cX9_wallNumerator 0 = .ok (.aload_n 0, 1) := by decide +kernel
theorem dX9_wallNumerator_1 : decode cX9_wallNumerator 1 = .ok (.iload_n 1, 1) := by decide +kernel
theorem dX9_wallNumerator_2 : decode cX9_wallNumerator 2 = .ok (.invokevirtual 172, 3) := by decide +kernel
theorem dX9_wallNumerator_5 : decode cX9_wallNumerator 5 = .ok (.astore_n 2, 1) := by decide +kernel
theorem dX9_wallNumerator_6 : decode cX9_wallNumerator 6 = .ok (.aload_n 2, 1) := by decide +kernel
theorem dX9_wallNumerator_7 : decode cX9_wallNumerator 7 = .ok (.ifnonnull 5, 3) := by decide +kernel
theorem dX9_wallNumerator_10 : decode cX9_wallNumerator 10 = .ok (.iconst (-1), 1) := by decide +kernel
theorem dX9_wallNumerator_11 : decode cX9_wallNumerator 11 = .ok (.ireturn, 1) := by decide +kernel
theorem dX9_wallNumerator_12 : decode cX9_wallNumerator 12 = .ok (.aload_n 2, 1) := by decide +kernel
theorem dX9_wallNumerator_13 : decode cX9_wallNumerator 13 = .ok (.invokevirtual 176, 3) := by decide +kernel
theorem dX9_wallNumerator_16 : decode cX9_wallNumerator 16 = .ok (.ifCond .eq 10, 3) := by decide +kernel
theorem dX9_wallNumerator_19 : decode cX9_wallNumerator 19 = .ok (.aload_n 2, 1) := by decide +kernel
theorem dX9_wallNumerator_20 : decode cX9_wallNumerator 20 = .ok (.getfield 179, 3) := by decide +kernel
theorem dX9_wallNumerator_23 : decode cX9_wallNumerator 23 = .ok (.goto 5, 3) := by decide +kernel
theorem dX9_wallNumerator_26 : decode cX9_wallNumerator 26 = .ok (.bipush (-5), 2) := by decide +kernel
theorem dX9_wallNumerator_28 : decode cX9_wallNumerator 28 = .ok (.ireturn, 1) := by decide +kernel
theorem dX9_wallDenominator_0 : decode cX9_wallDenominator 0 = .ok (.aload_n 0, 1) := by decide +kernel
theorem dX9_wallDenominator_1 : decode cX9_wallDenominator 1 = .ok (.iload_n 1, 1) := by decide +kernel
theorem dX9_wallDenominator_2 : decode cX9_wallDenominator 2 = .ok (.invokevirtual 172, 3) := by decide +kernel
theorem dX9_wallDenominator_5 : decode cX9_wallDenominator 5 = .ok (.astore_n 2, 1) := by decide +kernel
theorem dX9_wallDenominator_6 : decode cX9_wallDenominator 6 = .ok (.aload_n 2, 1) := by decide +kernel
theorem dX9_wallDenominator_7 : decode cX9_wallDenominator 7 = .ok (.ifnonnull 5, 3) := by decide +kernel
theorem dX9_wallDenominator_10 : decode cX9_wallDenominator 10 = .ok (.iconst (-1), 1) := by decide +kernel
theorem dX9_wallDenominator_11 : decode cX9_wallDenominator 11 = .ok (.ireturn, 1) := by decide +kernel
theorem dX9_wallDenominator_12 : decode cX9_wallDenominator 12 = .ok (.aload_n 2, 1) := by decide +kernel
theorem dX9_wallDenominator_13 : decode cX9_wallDenominator 13 = .ok (.invokevirtual 176, 3) := by decide +kernel
theorem dX9_wallDenominator_16 : decode cX9_wallDenominator 16 = .ok (.ifCond .eq 10, 3) := by decide +kernel
theorem dX9_wallDenominator_19 : decode cX9_wallDenominator 19 = .ok (.aload_n 2, 1) := by decide +kernel
theorem dX9_wallDenominator_20 : decode cX9_wallDenominator 20 = .ok (.getfield 182, 3) := by decide +kernel
theorem dX9_wallDenominator_23 : decode cX9_wallDenominator 23 = .ok (.goto 5, 3) := by decide +kernel
theorem dX9_wallDenominator_26 : decode cX9_wallDenominator 26 = .ok (.bipush (-5), 2) := by decide +kernel
theorem dX9_wallDenominator_28 : decode cX9_wallDenominator 28 = .ok (.ireturn, 1) := by decide +kernel
theorem dX9_firstConeContaining_0 : decode cX9_firstConeContaining 0 = .ok (.iload_n 1, 1) := by decide +kernel
theorem dX9_firstConeContaining_1 : decode cX9_firstConeContaining 1 = .ok (.iload_n 2, 1) := by decide +kernel
theorem dX9_firstConeContaining_2 : decode cX9_firstConeContaining 2 = .ok (.invokestatic 185, 3) := by decide +kernel
theorem dX9_firstConeContaining_5 : decode cX9_firstConeContaining 5 = .ok (.ifCond .ne 6, 3) := by decide +kernel
theorem dX9_firstConeContaining_8 : decode cX9_firstConeContaining 8 = .ok (.bipush (-2), 2) := by decide +kernel
theorem dX9_firstConeContaining_10 : decode cX9_firstConeContaining 10 = .ok (.ireturn, 1) := by decide +kernel
theorem dX9_firstConeContaining_11 : decode cX9_firstConeContaining 11 = .ok (.aload_n 0, 1) := by decide +kernel
theorem dX9_firstConeContaining_12 : decode cX9_firstConeContaining 12 = .ok (.invokevirtual 168, 3) := by decide +kernel
theorem dX9_firstConeContaining_15 : decode cX9_firstConeContaining 15 = .ok (.aload_n 0, 1) := by decide +kernel
theorem dX9_firstConeContaining_16 : decode cX9_firstConeContaining 16 = .ok (.getfield 59, 3) := by decide +kernel
theorem dX9_firstConeContaining_19 : decode cX9_firstConeContaining 19 = .ok (.iload_n 1, 1) := by decide +kernel
theorem dX9_firstConeContaining_20 : decode cX9_firstConeContaining 20 = .ok (.iload_n 2, 1) := by decide +kernel
theorem dX9_firstConeContaining_21 : decode cX9_firstConeContaining 21 = .ok (.invokevirtual 188, 3) := by decide +kernel
theorem dX9_firstConeContaining_24 : decode cX9_firstConeContaining 24 = .ok (.ireturn, 1) := by decide +kernel
theorem dX9_conesContaining_0 : decode cX9_conesContaining 0 = .ok (.iload_n 1, 1) := by decide +kernel
theorem dX9_conesContaining_1 : decode cX9_conesContaining 1 = .ok (.iload_n 2, 1) := by decide +kernel
theorem dX9_conesContaining_2 : decode cX9_conesContaining 2 = .ok (.invokestatic 185, 3) := by decide +kernel
theorem dX9_conesContaining_5 : decode cX9_conesContaining 5 = .ok (.ifCond .ne 6, 3) := by decide +kernel
theorem dX9_conesContaining_8 : decode cX9_conesContaining 8 = .ok (.bipush (-2), 2) := by decide +kernel
theorem dX9_conesContaining_10 : decode cX9_conesContaining 10 = .ok (.ireturn, 1) := by decide +kernel
theorem dX9_conesContaining_11 : decode cX9_conesContaining 11 = .ok (.aload_n 0, 1) := by decide +kernel
theorem dX9_conesContaining_12 : decode cX9_conesContaining 12 = .ok (.invokevirtual 168, 3) := by decide +kernel
theorem dX9_conesContaining_15 : decode cX9_conesContaining 15 = .ok (.aload_n 0, 1) := by decide +kernel
theorem dX9_conesContaining_16 : decode cX9_conesContaining 16 = .ok (.getfield 59, 3) := by decide +kernel
theorem dX9_conesContaining_19 : decode cX9_conesContaining 19 = .ok (.aload_n 0, 1) := by decide +kernel
theorem dX9_conesContaining_20 : decode cX9_conesContaining 20 = .ok (.getfield 59, 3) := by decide +kernel
theorem dX9_conesContaining_23 : decode cX9_conesContaining 23 = .ok (.iload_n 1, 1) := by decide +kernel
theorem dX9_conesContaining_24 : decode cX9_conesContaining 24 = .ok (.iload_n 2, 1) := by decide +kernel
theorem dX9_conesContaining_25 : decode cX9_conesContaining 25 = .ok (.invokevirtual 188, 3) := by decide +kernel
theorem dX9_conesContaining_28 : decode cX9_conesContaining 28 = .ok (.invokevirtual 192, 3) := by decide +kernel
theorem dX9_conesContaining_31 : decode cX9_conesContaining 31 = .ok (.astore_n 3, 1) := by decide +kernel
theorem dX9_conesContaining_32 : decode cX9_conesContaining 32 = .ok (.aload_n 3, 1) := by decide +kernel
theorem dX9_conesContaining_33 : decode cX9_conesContaining 33 = .ok (.ifnull 16, 3) := by decide +kernel
theorem dX9_conesContaining_36 : decode cX9_conesContaining 36 = .ok (.aload_n 3, 1) := by decide +kernel
theorem dX9_conesContaining_37 : decode cX9_conesContaining 37 = .ok (.iload_n 1, 1) := by decide +kernel
theorem dX9_conesContaining_38 : decode cX9_conesContaining 38 = .ok (.iload_n 2, 1) := by decide +kernel
theorem dX9_conesContaining_39 : decode cX9_conesContaining 39 = .ok (.invokevirtual 194, 3) := by decide +kernel
theorem dX9_conesContaining_42 : decode cX9_conesContaining 42 = .ok (.ifCond .eq 7, 3) := by decide +kernel
theorem dX9_conesContaining_45 : decode cX9_conesContaining 45 = .ok (.iconst 2, 1) := by decide +kernel
theorem dX9_conesContaining_46 : decode cX9_conesContaining 46 = .ok (.goto 4, 3) := by decide +kernel
theorem dX9_conesContaining_49 : decode cX9_conesContaining 49 = .ok (.iconst 1, 1) := by decide +kernel
theorem dX9_conesContaining_50 : decode cX9_conesContaining 50 = .ok (.ireturn, 1) := by decide +kernel
theorem dX9_coneHeight_0 : decode cX9_coneHeight 0 = .ok (.aload_n 0, 1) := by decide +kernel
theorem dX9_coneHeight_1 : decode cX9_coneHeight 1 = .ok (.iload_n 1, 1) := by decide +kernel
theorem dX9_coneHeight_2 : decode cX9_coneHeight 2 = .ok (.invokevirtual 172, 3) := by decide +kernel
theorem dX9_coneHeight_5 : decode cX9_coneHeight 5 = .ok (.astore_n 3, 1) := by decide +kernel
theorem dX9_coneHeight_6 : decode cX9_coneHeight 6 = .ok (.aload_n 3, 1) := by decide +kernel
theorem dX9_coneHeight_7 : decode cX9_coneHeight 7 = .ok (.ifnull 10, 3) := by decide +kernel
theorem dX9_coneHeight_10 : decode cX9_coneHeight 10 = .ok (.iload_n 2, 1) := by decide +kernel
theorem dX9_coneHeight_11 : decode cX9_coneHeight 11 = .ok (.invokestatic 140, 3) := by decide +kernel
theorem dX9_coneHeight_14 : decode cX9_coneHeight 14 = .ok (.ifCond .ne 5, 3) := by decide +kernel
theorem dX9_coneHeight_17 : decode cX9_coneHeight 17 = .ok (.iconst (-1), 1) := by decide +kernel
theorem dX9_coneHeight_18 : decode cX9_coneHeight 18 = .ok (.ireturn, 1) := by decide +kernel
theorem dX9_coneHeight_19 : decode cX9_coneHeight 19 = .ok (.aload_n 3, 1) := by decide +kernel
theorem dX9_coneHeight_20 : decode cX9_coneHeight 20 = .ok (.getfield 151, 3) := by decide +kernel
theorem dX9_coneHeight_23 : decode cX9_coneHeight 23 = .ok (.iload_n 2, 1) := by decide +kernel
theorem dX9_coneHeight_24 : decode cX9_coneHeight 24 = .ok (.iaload, 1) := by decide +kernel
theorem dX9_coneHeight_25 : decode cX9_coneHeight 25 = .ok (.ireturn, 1) := by decide +kernel
theorem dX9_basisSize_0 : decode cX9_basisSize 0 = .ok (.aload_n 0, 1) := by decide +kernel
theorem dX9_basisSize_1 : decode cX9_basisSize 1 = .ok (.iload_n 1, 1) := by decide +kernel
theorem dX9_basisSize_2 : decode cX9_basisSize 2 = .ok (.invokevirtual 172, 3) := by decide +kernel
theorem dX9_basisSize_5 : decode cX9_basisSize 5 = .ok (.astore_n 2, 1) := by decide +kernel
theorem dX9_basisSize_6 : decode cX9_basisSize 6 = .ok (.aload_n 2, 1) := by decide +kernel
theorem dX9_basisSize_7 : decode cX9_basisSize 7 = .ok (.ifnonnull 7, 3) := by decide +kernel
theorem dX9_basisSize_10 : decode cX9_basisSize 10 = .ok (.iconst (-1), 1) := by decide +kernel
theorem dX9_basisSize_11 : decode cX9_basisSize 11 = .ok (.goto 7, 3) := by decide +kernel
theorem dX9_basisSize_14 : decode cX9_basisSize 14 = .ok (.aload_n 2, 1) := by decide +kernel
theorem dX9_basisSize_15 : decode cX9_basisSize 15 = .ok (.getfield 154, 3) := by decide +kernel
theorem dX9_basisSize_18 : decode cX9_basisSize 18 = .ok (.ireturn, 1) := by decide +kernel
theorem dX9_basisCorner_0 : decode cX9_basisCorner 0 = .ok (.aload_n 0, 1) := by decide +kernel
theorem dX9_basisCorner_1 : decode cX9_basisCorner 1 = .ok (.iload_n 1, 1) := by decide +kernel
theorem dX9_basisCorner_2 : decode cX9_basisCorner 2 = .ok (.iload_n 2, 1) := by decide +kernel
theorem dX9_basisCorner_3 : decode cX9_basisCorner 3 = .ok (.invokevirtual 197, 3) := by decide +kernel
theorem dX9_basisCorner_6 : decode cX9_basisCorner 6 = .ok (.astore_n 3, 1) := by decide +kernel
theorem dX9_basisCorner_7 : decode cX9_basisCorner 7 = .ok (.aload_n 3, 1) := by decide +kernel
theorem dX9_basisCorner_8 : decode cX9_basisCorner 8 = .ok (.ifnonnull 7, 3) := by decide +kernel
theorem dX9_basisCorner_11 : decode cX9_basisCorner 11 = .ok (.iconst (-1), 1) := by decide +kernel
theorem dX9_basisCorner_12 : decode cX9_basisCorner 12 = .ok (.goto 10, 3) := by decide +kernel
theorem dX9_basisCorner_15 : decode cX9_basisCorner 15 = .ok (.aload_n 3, 1) := by decide +kernel
theorem dX9_basisCorner_16 : decode cX9_basisCorner 16 = .ok (.getfield 159, 3) := by decide +kernel
theorem dX9_basisCorner_19 : decode cX9_basisCorner 19 = .ok (.invokestatic 164, 3) := by decide +kernel
theorem dX9_basisCorner_22 : decode cX9_basisCorner 22 = .ok (.ireturn, 1) := by decide +kernel
theorem dX9_basisCoefficient_0 : decode cX9_basisCoefficient 0 = .ok (.aload_n 0, 1) := by decide +kernel
theorem dX9_basisCoefficient_1 : decode cX9_basisCoefficient 1 = .ok (.iload_n 1, 1) := by decide +kernel
theorem dX9_basisCoefficient_2 : decode cX9_basisCoefficient 2 = .ok (.iload_n 2, 1) := by decide +kernel
theorem dX9_basisCoefficient_3 : decode cX9_basisCoefficient 3 = .ok (.invokevirtual 197, 3) := by decide +kernel
theorem dX9_basisCoefficient_6 : decode cX9_basisCoefficient 6 = .ok (.astore 5, 2) := by decide +kernel
theorem dX9_basisCoefficient_8 : decode cX9_basisCoefficient 8 = .ok (.aload 5, 2) := by decide +kernel
theorem dX9_basisCoefficient_10 : decode cX9_basisCoefficient 10 = .ok (.ifnull 18, 3) := by decide +kernel
theorem dX9_basisCoefficient_13 : decode cX9_basisCoefficient 13 = .ok (.iload_n 3, 1) := by decide +kernel
theorem dX9_basisCoefficient_14 : decode cX9_basisCoefficient 14 = .ok (.invokestatic 140, 3) := by decide +kernel
theorem dX9_basisCoefficient_17 : decode cX9_basisCoefficient 17 = .ok (.ifCond .eq 11, 3) := by decide +kernel
theorem dX9_basisCoefficient_20 : decode cX9_basisCoefficient 20 = .ok (.iload 4, 2) := by decide +kernel
theorem dX9_basisCoefficient_22 : decode cX9_basisCoefficient 22 = .ok (.invokestatic 140, 3) := by decide +kernel
theorem dX9_basisCoefficient_25 : decode cX9_basisCoefficient 25 = .ok (.ifCond .ne 5, 3) := by decide +kernel
theorem dX9_basisCoefficient_28 : decode cX9_basisCoefficient 28 = .ok (.iconst (-1), 1) := by decide +kernel
theorem dX9_basisCoefficient_29 : decode cX9_basisCoefficient 29 = .ok (.ireturn, 1) := by decide +kernel
theorem dX9_basisCoefficient_30 : decode cX9_basisCoefficient 30 = .ok (.aload 5, 2) := by decide +kernel
theorem dX9_basisCoefficient_32 : decode cX9_basisCoefficient 32 = .ok (.bipush 9, 2) := by decide +kernel
theorem dX9_basisCoefficient_34 : decode cX9_basisCoefficient 34 = .ok (.iload_n 3, 1) := by decide +kernel
theorem dX9_basisCoefficient_35 : decode cX9_basisCoefficient 35 = .ok (.imul, 1) := by decide +kernel
theorem dX9_basisCoefficient_36 : decode cX9_basisCoefficient 36 = .ok (.iload 4, 2) := by decide +kernel
theorem dX9_basisCoefficient_38 : decode cX9_basisCoefficient 38 = .ok (.iadd, 1) := by decide +kernel
theorem dX9_basisCoefficient_39 : decode cX9_basisCoefficient 39 = .ok (.invokevirtual 201, 3) := by decide +kernel
theorem dX9_basisCoefficient_42 : decode cX9_basisCoefficient 42 = .ok (.ireturn, 1) := by decide +kernel
theorem dX9_changedCorners_0 : decode cX9_changedCorners 0 = .ok (.aload_n 0, 1) := by decide +kernel
theorem dX9_changedCorners_1 : decode cX9_changedCorners 1 = .ok (.iload_n 1, 1) := by decide +kernel
theorem dX9_changedCorners_2 : decode cX9_changedCorners 2 = .ok (.invokevirtual 172, 3) := by decide +kernel
theorem dX9_changedCorners_5 : decode cX9_changedCorners 5 = .ok (.astore_n 2, 1) := by decide +kernel
theorem dX9_changedCorners_6 : decode cX9_changedCorners 6 = .ok (.aload_n 2, 1) := by decide +kernel
theorem dX9_changedCorners_7 : decode cX9_changedCorners 7 = .ok (.ifnonnull 5, 3) := by decide +kernel
theorem dX9_changedCorners_10 : decode cX9_changedCorners 10 = .ok (.iconst (-1), 1) := by decide +kernel
theorem dX9_changedCorners_11 : decode cX9_changedCorners 11 = .ok (.ireturn, 1) := by decide +kernel
theorem dX9_changedCorners_12 : decode cX9_changedCorners 12 = .ok (.aload_n 0, 1) := by decide +kernel
theorem dX9_changedCorners_13 : decode cX9_changedCorners 13 = .ok (.iload_n 1, 1) := by decide +kernel
theorem dX9_changedCorners_14 : decode cX9_changedCorners 14 = .ok (.iconst 1, 1) := by decide +kernel
theorem dX9_changedCorners_15 : decode cX9_changedCorners 15 = .ok (.iadd, 1) := by decide +kernel
theorem dX9_changedCorners_16 : decode cX9_changedCorners 16 = .ok (.invokevirtual 172, 3) := by decide +kernel
theorem dX9_changedCorners_19 : decode cX9_changedCorners 19 = .ok (.astore_n 3, 1) := by decide +kernel
theorem dX9_changedCorners_20 : decode cX9_changedCorners 20 = .ok (.aload_n 3, 1) := by decide +kernel
theorem dX9_changedCorners_21 : decode cX9_changedCorners 21 = .ok (.ifnonnull 8, 3) := by decide +kernel
theorem dX9_changedCorners_24 : decode cX9_changedCorners 24 = .ok (.bipush (-5), 2) := by decide +kernel
theorem dX9_changedCorners_26 : decode cX9_changedCorners 26 = .ok (.goto 8, 3) := by decide +kernel
theorem dX9_changedCorners_29 : decode cX9_changedCorners 29 = .ok (.aload_n 2, 1) := by decide +kernel
theorem dX9_changedCorners_30 : decode cX9_changedCorners 30 = .ok (.aload_n 3, 1) := by decide +kernel
theorem dX9_changedCorners_31 : decode cX9_changedCorners 31 = .ok (.invokevirtual 204, 3) := by decide +kernel
theorem dX9_changedCorners_34 : decode cX9_changedCorners 34 = .ok (.ireturn, 1) := by decide +kernel
theorem dX9_universalSize_0 : decode cX9_universalSize 0 = .ok (.aload_n 0, 1) := by decide +kernel
theorem dX9_universalSize_1 : decode cX9_universalSize 1 = .ok (.invokevirtual 168, 3) := by decide +kernel
theorem dX9_universalSize_4 : decode cX9_universalSize 4 = .ok (.aload_n 0, 1) := by decide +kernel
theorem dX9_universalSize_5 : decode cX9_universalSize 5 = .ok (.getfield 59, 3) := by decide +kernel
theorem dX9_universalSize_8 : decode cX9_universalSize 8 = .ok (.invokevirtual 208, 3) := by decide +kernel
theorem dX9_universalSize_11 : decode cX9_universalSize 11 = .ok (.ireturn, 1) := by decide +kernel
theorem dX9_universalDegree_0 : decode cX9_universalDegree 0 = .ok (.aload_n 0, 1) := by decide +kernel
theorem dX9_universalDegree_1 : decode cX9_universalDegree 1 = .ok (.invokevirtual 168, 3) := by decide +kernel
theorem dX9_universalDegree_4 : decode cX9_universalDegree 4 = .ok (.aload_n 0, 1) := by decide +kernel
theorem dX9_universalDegree_5 : decode cX9_universalDegree 5 = .ok (.getfield 59, 3) := by decide +kernel
theorem dX9_universalDegree_8 : decode cX9_universalDegree 8 = .ok (.invokevirtual 212, 3) := by decide +kernel
theorem dX9_universalDegree_11 : decode cX9_universalDegree 11 = .ok (.ireturn, 1) := by decide +kernel
theorem dX9_mirroredCone_0 : decode cX9_mirroredCone 0 = .ok (.aload_n 0, 1) := by decide +kernel
theorem dX9_mirroredCone_1 : decode cX9_mirroredCone 1 = .ok (.iload_n 1, 1) := by decide +kernel
theorem dX9_mirroredCone_2 : decode cX9_mirroredCone 2 = .ok (.invokevirtual 172, 3) := by decide +kernel
theorem dX9_mirroredCone_5 : decode cX9_mirroredCone 5 = .ok (.astore_n 2, 1) := by decide +kernel
theorem dX9_mirroredCone_6 : decode cX9_mirroredCone 6 = .ok (.aload_n 2, 1) := by decide +kernel
theorem dX9_mirroredCone_7 : decode cX9_mirroredCone 7 = .ok (.ifnonnull 5, 3) := by decide +kernel
theorem dX9_mirroredCone_10 : decode cX9_mirroredCone 10 = .ok (.iconst (-1), 1) := by decide +kernel
theorem dX9_mirroredCone_11 : decode cX9_mirroredCone 11 = .ok (.ireturn, 1) := by decide +kernel
theorem dX9_mirroredCone_12 : decode cX9_mirroredCone 12 = .ok (.aload_n 0, 1) := by decide +kernel
theorem dX9_mirroredCone_13 : decode cX9_mirroredCone 13 = .ok (.getfield 59, 3) := by decide +kernel
theorem dX9_mirroredCone_16 : decode cX9_mirroredCone 16 = .ok (.aload_n 2, 1) := by decide +kernel
theorem dX9_mirroredCone_17 : decode cX9_mirroredCone 17 = .ok (.invokevirtual 215, 3) := by decide +kernel
theorem dX9_mirroredCone_20 : decode cX9_mirroredCone 20 = .ok (.istore_n 3, 1) := by decide +kernel
theorem dX9_mirroredCone_21 : decode cX9_mirroredCone 21 = .ok (.iload_n 3, 1) := by decide +kernel
theorem dX9_mirroredCone_22 : decode cX9_mirroredCone 22 = .ok (.iconst (-1), 1) := by decide +kernel
theorem dX9_mirroredCone_23 : decode cX9_mirroredCone 23 = .ok (.if_icmp .ne 8, 3) := by decide +kernel
theorem dX9_mirroredCone_26 : decode cX9_mirroredCone 26 = .ok (.bipush (-5), 2) := by decide +kernel
theorem dX9_mirroredCone_28 : decode cX9_mirroredCone 28 = .ok (.goto 4, 3) := by decide +kernel
theorem dX9_mirroredCone_31 : decode cX9_mirroredCone 31 = .ok (.iload_n 3, 1) := by decide +kernel
theorem dX9_mirroredCone_32 : decode cX9_mirroredCone 32 = .ok (.ireturn, 1) := by decide +kernel
theorem dX9_flattestCone_0 : decode cX9_flattestCone 0 = .ok (.aload_n 0, 1) := by decide +kernel
theorem dX9_flattestCone_1 : decode cX9_flattestCone 1 = .ok (.invokevirtual 168, 3) := by decide +kernel
theorem dX9_flattestCone_4 : decode cX9_flattestCone 4 = .ok (.aload_n 0, 1) := by decide +kernel
theorem dX9_flattestCone_5 : decode cX9_flattestCone 5 = .ok (.getfield 59, 3) := by decide +kernel
theorem dX9_flattestCone_8 : decode cX9_flattestCone 8 = .ok (.invokevirtual 218, 3) := by decide +kernel
theorem dX9_flattestCone_11 : decode cX9_flattestCone 11 = .ok (.ireturn, 1) := by decide +kernel
theorem dX9_setCoefficient_0 : decode cX9_setCoefficient 0 = .ok (.iload_n 1, 1) := by decide +kernel
theorem dX9_setCoefficient_1 : decode cX9_setCoefficient 1 = .ok (.invokestatic 140, 3) := by decide +kernel
theorem dX9_setCoefficient_4 : decode cX9_setCoefficient 4 = .ok (.ifCond .eq 10, 3) := by decide +kernel
theorem dX9_setCoefficient_7 : decode cX9_setCoefficient 7 = .ok (.iload_n 2, 1) := by decide +kernel
theorem dX9_setCoefficient_8 : decode cX9_setCoefficient 8 = .ok (.invokestatic 140, 3) := by decide +kernel
theorem dX9_setCoefficient_11 : decode cX9_setCoefficient 11 = .ok (.ifCond .ne 5, 3) := by decide +kernel
theorem dX9_setCoefficient_14 : decode cX9_setCoefficient 14 = .ok (.iconst (-1), 1) := by decide +kernel
theorem dX9_setCoefficient_15 : decode cX9_setCoefficient 15 = .ok (.ireturn, 1) := by decide +kernel
theorem dX9_setCoefficient_16 : decode cX9_setCoefficient 16 = .ok (.bipush 9, 2) := by decide +kernel
theorem dX9_setCoefficient_18 : decode cX9_setCoefficient 18 = .ok (.iload_n 1, 1) := by decide +kernel
theorem dX9_setCoefficient_19 : decode cX9_setCoefficient 19 = .ok (.imul, 1) := by decide +kernel
theorem dX9_setCoefficient_20 : decode cX9_setCoefficient 20 = .ok (.iload_n 2, 1) := by decide +kernel
end
section
theorem dX9_setCoefficient_21 : decode cX9_setCoefficient 21 = .ok (.iadd, 1) := by decide +kernel
theorem dX9_setCoefficient_22 : decode cX9_setCoefficient 22 = .ok (.istore 4, 2) := by decide +kernel
theorem dX9_setCoefficient_24 : decode cX9_setCoefficient 24 = .ok (.aload_n 0, 1) := by decide +kernel
theorem dX9_setCoefficient_25 : decode cX9_setCoefficient 25 = .ok (.getfield 19, 3) := by decide +kernel
theorem dX9_setCoefficient_28 : decode cX9_setCoefficient 28 = .ok (.getfield 221, 3) := by decide +kernel
theorem dX9_setCoefficient_31 : decode cX9_setCoefficient 31 = .ok (.iload 4, 2) := by decide +kernel
theorem dX9_setCoefficient_33 : decode cX9_setCoefficient 33 = .ok (.iaload, 1) := by decide +kernel
theorem dX9_setCoefficient_34 : decode cX9_setCoefficient 34 = .ok (.istore 5, 2) := by decide +kernel
theorem dX9_setCoefficient_36 : decode cX9_setCoefficient 36 = .ok (.aload_n 0, 1) := by decide +kernel
theorem dX9_setCoefficient_37 : decode cX9_setCoefficient 37 = .ok (.getfield 19, 3) := by decide +kernel
theorem dX9_setCoefficient_40 : decode cX9_setCoefficient 40 = .ok (.getfield 221, 3) := by decide +kernel
theorem dX9_setCoefficient_43 : decode cX9_setCoefficient 43 = .ok (.iload 4, 2) := by decide +kernel
theorem dX9_setCoefficient_45 : decode cX9_setCoefficient 45 = .ok (.aload_n 0, 1) := by decide +kernel
theorem dX9_setCoefficient_46 : decode cX9_setCoefficient 46 = .ok (.getfield 12, 3) := by decide +kernel
theorem dX9_setCoefficient_49 : decode cX9_setCoefficient 49 = .ok (.iload_n 3, 1) := by decide +kernel
theorem dX9_setCoefficient_50 : decode cX9_setCoefficient 50 = .ok (.invokevirtual 224, 3) := by decide +kernel
theorem dX9_setCoefficient_53 : decode cX9_setCoefficient 53 = .ok (.iastore, 1) := by decide +kernel
theorem dX9_setCoefficient_54 : decode cX9_setCoefficient 54 = .ok (.iload 5, 2) := by decide +kernel
theorem dX9_setCoefficient_56 : decode cX9_setCoefficient 56 = .ok (.ireturn, 1) := by decide +kernel
theorem dX9_coefficient_0 : decode cX9_coefficient 0 = .ok (.iload_n 1, 1) := by decide +kernel
theorem dX9_coefficient_1 : decode cX9_coefficient 1 = .ok (.invokestatic 140, 3) := by decide +kernel
theorem dX9_coefficient_4 : decode cX9_coefficient 4 = .ok (.ifCond .eq 27, 3) := by decide +kernel
theorem dX9_coefficient_7 : decode cX9_coefficient 7 = .ok (.iload_n 2, 1) := by decide +kernel
theorem dX9_coefficient_8 : decode cX9_coefficient 8 = .ok (.invokestatic 140, 3) := by decide +kernel
theorem dX9_coefficient_11 : decode cX9_coefficient 11 = .ok (.ifCond .eq 20, 3) := by decide +kernel
theorem dX9_coefficient_14 : decode cX9_coefficient 14 = .ok (.aload_n 0, 1) := by decide +kernel
theorem dX9_coefficient_15 : decode cX9_coefficient 15 = .ok (.getfield 19, 3) := by decide +kernel
theorem dX9_coefficient_18 : decode cX9_coefficient 18 = .ok (.getfield 221, 3) := by decide +kernel
theorem dX9_coefficient_21 : decode cX9_coefficient 21 = .ok (.bipush 9, 2) := by decide +kernel
theorem dX9_coefficient_23 : decode cX9_coefficient 23 = .ok (.iload_n 1, 1) := by decide +kernel
theorem dX9_coefficient_24 : decode cX9_coefficient 24 = .ok (.imul, 1) := by decide +kernel
theorem dX9_coefficient_25 : decode cX9_coefficient 25 = .ok (.iload_n 2, 1) := by decide +kernel
theorem dX9_coefficient_26 : decode cX9_coefficient 26 = .ok (.iadd, 1) := by decide +kernel
theorem dX9_coefficient_27 : decode cX9_coefficient 27 = .ok (.iaload, 1) := by decide +kernel
theorem dX9_coefficient_28 : decode cX9_coefficient 28 = .ok (.goto 4, 3) := by decide +kernel
theorem dX9_coefficient_31 : decode cX9_coefficient 31 = .ok (.iconst (-1), 1) := by decide +kernel
theorem dX9_coefficient_32 : decode cX9_coefficient 32 = .ok (.ireturn, 1) := by decide +kernel
theorem dX9_termCount_0 : decode cX9_termCount 0 = .ok (.aload_n 0, 1) := by decide +kernel
theorem dX9_termCount_1 : decode cX9_termCount 1 = .ok (.getfield 19, 3) := by decide +kernel
theorem dX9_termCount_4 : decode cX9_termCount 4 = .ok (.invokevirtual 227, 3) := by decide +kernel
theorem dX9_termCount_7 : decode cX9_termCount 7 = .ok (.ireturn, 1) := by decide +kernel
theorem dX9_evaluate_0 : decode cX9_evaluate 0 = .ok (.aload_n 0, 1) := by decide +kernel
theorem dX9_evaluate_1 : decode cX9_evaluate 1 = .ok (.getfield 12, 3) := by decide +kernel
theorem dX9_evaluate_4 : decode cX9_evaluate 4 = .ok (.iload_n 1, 1) := by decide +kernel
theorem dX9_evaluate_5 : decode cX9_evaluate 5 = .ok (.invokevirtual 116, 3) := by decide +kernel
theorem dX9_evaluate_8 : decode cX9_evaluate 8 = .ok (.ifCond .eq 18, 3) := by decide +kernel
theorem dX9_evaluate_11 : decode cX9_evaluate 11 = .ok (.aload_n 0, 1) := by decide +kernel
theorem dX9_evaluate_12 : decode cX9_evaluate 12 = .ok (.getfield 19, 3) := by decide +kernel
theorem dX9_evaluate_15 : decode cX9_evaluate 15 = .ok (.aload_n 0, 1) := by decide +kernel
theorem dX9_evaluate_16 : decode cX9_evaluate 16 = .ok (.getfield 12, 3) := by decide +kernel
theorem dX9_evaluate_19 : decode cX9_evaluate 19 = .ok (.iload_n 1, 1) := by decide +kernel
theorem dX9_evaluate_20 : decode cX9_evaluate 20 = .ok (.invokevirtual 230, 3) := by decide +kernel
theorem dX9_evaluate_23 : decode cX9_evaluate 23 = .ok (.goto 4, 3) := by decide +kernel
theorem dX9_evaluate_26 : decode cX9_evaluate 26 = .ok (.iconst (-1), 1) := by decide +kernel
theorem dX9_evaluate_27 : decode cX9_evaluate 27 = .ok (.ireturn, 1) := by decide +kernel
theorem dX9_isVanishing_0 : decode cX9_isVanishing 0 = .ok (.iconst 0, 1) := by decide +kernel
theorem dX9_isVanishing_1 : decode cX9_isVanishing 1 = .ok (.istore_n 1, 1) := by decide +kernel
theorem dX9_isVanishing_2 : decode cX9_isVanishing 2 = .ok (.iload_n 1, 1) := by decide +kernel
theorem dX9_isVanishing_3 : decode cX9_isVanishing 3 = .ok (.aload_n 0, 1) := by decide +kernel
theorem dX9_isVanishing_4 : decode cX9_isVanishing 4 = .ok (.getfield 12, 3) := by decide +kernel
theorem dX9_isVanishing_7 : decode cX9_isVanishing 7 = .ok (.getfield 109, 3) := by decide +kernel
theorem dX9_isVanishing_10 : decode cX9_isVanishing 10 = .ok (.if_icmp .ge 26, 3) := by decide +kernel
theorem dX9_isVanishing_13 : decode cX9_isVanishing 13 = .ok (.aload_n 0, 1) := by decide +kernel
theorem dX9_isVanishing_14 : decode cX9_isVanishing 14 = .ok (.getfield 19, 3) := by decide +kernel
theorem dX9_isVanishing_17 : decode cX9_isVanishing 17 = .ok (.aload_n 0, 1) := by decide +kernel
theorem dX9_isVanishing_18 : decode cX9_isVanishing 18 = .ok (.getfield 12, 3) := by decide +kernel
theorem dX9_isVanishing_21 : decode cX9_isVanishing 21 = .ok (.iload_n 1, 1) := by decide +kernel
theorem dX9_isVanishing_22 : decode cX9_isVanishing 22 = .ok (.invokevirtual 230, 3) := by decide +kernel
theorem dX9_isVanishing_25 : decode cX9_isVanishing 25 = .ok (.ifCond .eq 5, 3) := by decide +kernel
theorem dX9_isVanishing_28 : decode cX9_isVanishing 28 = .ok (.iconst 0, 1) := by decide +kernel
theorem dX9_isVanishing_29 : decode cX9_isVanishing 29 = .ok (.ireturn, 1) := by decide +kernel
theorem dX9_isVanishing_30 : decode cX9_isVanishing 30 = .ok (.iinc 1 1, 3) := by decide +kernel
theorem dX9_isVanishing_33 : decode cX9_isVanishing 33 = .ok (.goto (-31), 3) := by decide +kernel
theorem dX9_isVanishing_36 : decode cX9_isVanishing 36 = .ok (.iconst 1, 1) := by decide +kernel
theorem dX9_isVanishing_37 : decode cX9_isVanishing 37 = .ok (.ireturn, 1) := by decide +kernel
theorem dX9_reduceToNormalForm_0 : decode cX9_reduceToNormalForm 0 = .ok (.aload_n 0, 1) := by decide +kernel
theorem dX9_reduceToNormalForm_1 : decode cX9_reduceToNormalForm 1 = .ok (.iload_n 1, 1) := by decide +kernel
theorem dX9_reduceToNormalForm_2 : decode cX9_reduceToNormalForm 2 = .ok (.invokevirtual 172, 3) := by decide +kernel
theorem dX9_reduceToNormalForm_5 : decode cX9_reduceToNormalForm 5 = .ok (.astore_n 2, 1) := by decide +kernel
theorem dX9_reduceToNormalForm_6 : decode cX9_reduceToNormalForm 6 = .ok (.aload_n 2, 1) := by decide +kernel
theorem dX9_reduceToNormalForm_7 : decode cX9_reduceToNormalForm 7 = .ok (.ifnonnull 5, 3) := by decide +kernel
theorem dX9_reduceToNormalForm_10 : decode cX9_reduceToNormalForm 10 = .ok (.iconst (-1), 1) := by decide +kernel
theorem dX9_reduceToNormalForm_11 : decode cX9_reduceToNormalForm 11 = .ok (.ireturn, 1) := by decide +kernel
theorem dX9_reduceToNormalForm_12 : decode cX9_reduceToNormalForm 12 = .ok (.aload_n 0, 1) := by decide +kernel
theorem dX9_reduceToNormalForm_13 : decode cX9_reduceToNormalForm 13 = .ok (.getfield 38, 3) := by decide +kernel
theorem dX9_reduceToNormalForm_16 : decode cX9_reduceToNormalForm 16 = .ok (.aload_n 2, 1) := by decide +kernel
theorem dX9_reduceToNormalForm_17 : decode cX9_reduceToNormalForm 17 = .ok (.invokevirtual 234, 3) := by decide +kernel
theorem dX9_reduceToNormalForm_20 : decode cX9_reduceToNormalForm 20 = .ok (.iconst 0, 1) := by decide +kernel
theorem dX9_reduceToNormalForm_21 : decode cX9_reduceToNormalForm 21 = .ok (.istore_n 3, 1) := by decide +kernel
theorem dX9_reduceToNormalForm_22 : decode cX9_reduceToNormalForm 22 = .ok (.iload_n 3, 1) := by decide +kernel
theorem dX9_reduceToNormalForm_23 : decode cX9_reduceToNormalForm 23 = .ok (.aload_n 0, 1) := by decide +kernel
theorem dX9_reduceToNormalForm_24 : decode cX9_reduceToNormalForm 24 = .ok (.getfield 12, 3) := by decide +kernel
theorem dX9_reduceToNormalForm_27 : decode cX9_reduceToNormalForm 27 = .ok (.getfield 109, 3) := by decide +kernel
theorem dX9_reduceToNormalForm_30 : decode cX9_reduceToNormalForm 30 = .ok (.if_icmp .ge 30, 3) := by decide +kernel
theorem dX9_reduceToNormalForm_33 : decode cX9_reduceToNormalForm 33 = .ok (.aload_n 0, 1) := by decide +kernel
theorem dX9_reduceToNormalForm_34 : decode cX9_reduceToNormalForm 34 = .ok (.getfield 38, 3) := by decide +kernel
theorem dX9_reduceToNormalForm_37 : decode cX9_reduceToNormalForm 37 = .ok (.getfield 238, 3) := by decide +kernel
theorem dX9_reduceToNormalForm_40 : decode cX9_reduceToNormalForm 40 = .ok (.iload_n 3, 1) := by decide +kernel
theorem dX9_reduceToNormalForm_41 : decode cX9_reduceToNormalForm 41 = .ok (.aload_n 0, 1) := by decide +kernel
theorem dX9_reduceToNormalForm_42 : decode cX9_reduceToNormalForm 42 = .ok (.getfield 19, 3) := by decide +kernel
theorem dX9_reduceToNormalForm_45 : decode cX9_reduceToNormalForm 45 = .ok (.aload_n 0, 1) := by decide +kernel
theorem dX9_reduceToNormalForm_46 : decode cX9_reduceToNormalForm 46 = .ok (.getfield 12, 3) := by decide +kernel
theorem dX9_reduceToNormalForm_49 : decode cX9_reduceToNormalForm 49 = .ok (.iload_n 3, 1) := by decide +kernel
theorem dX9_reduceToNormalForm_50 : decode cX9_reduceToNormalForm 50 = .ok (.invokevirtual 230, 3) := by decide +kernel
theorem dX9_reduceToNormalForm_53 : decode cX9_reduceToNormalForm 53 = .ok (.iastore, 1) := by decide +kernel
theorem dX9_reduceToNormalForm_54 : decode cX9_reduceToNormalForm 54 = .ok (.iinc 3 1, 3) := by decide +kernel
theorem dX9_reduceToNormalForm_57 : decode cX9_reduceToNormalForm 57 = .ok (.goto (-35), 3) := by decide +kernel
theorem dX9_reduceToNormalForm_60 : decode cX9_reduceToNormalForm 60 = .ok (.aload_n 0, 1) := by decide +kernel
theorem dX9_reduceToNormalForm_61 : decode cX9_reduceToNormalForm 61 = .ok (.invokevirtual 241, 3) := by decide +kernel
theorem dX9_reduceToNormalForm_64 : decode cX9_reduceToNormalForm 64 = .ok (.ireturn, 1) := by decide +kernel
theorem dX9_interpolate_0 : decode cX9_interpolate 0 = .ok (.aload_n 0, 1) := by decide +kernel
theorem dX9_interpolate_1 : decode cX9_interpolate 1 = .ok (.iload_n 1, 1) := by decide +kernel
theorem dX9_interpolate_2 : decode cX9_interpolate 2 = .ok (.invokevirtual 172, 3) := by decide +kernel
theorem dX9_interpolate_5 : decode cX9_interpolate 5 = .ok (.astore_n 3, 1) := by decide +kernel
theorem dX9_interpolate_6 : decode cX9_interpolate 6 = .ok (.aload_n 0, 1) := by decide +kernel
theorem dX9_interpolate_7 : decode cX9_interpolate 7 = .ok (.iload_n 2, 1) := by decide +kernel
theorem dX9_interpolate_8 : decode cX9_interpolate 8 = .ok (.invokevirtual 244, 3) := by decide +kernel
theorem dX9_interpolate_11 : decode cX9_interpolate 11 = .ok (.astore 4, 2) := by decide +kernel
theorem dX9_interpolate_13 : decode cX9_interpolate 13 = .ok (.aload_n 3, 1) := by decide +kernel
theorem dX9_interpolate_14 : decode cX9_interpolate 14 = .ok (.ifnull 8, 3) := by decide +kernel
theorem dX9_interpolate_17 : decode cX9_interpolate 17 = .ok (.aload 4, 2) := by decide +kernel
theorem dX9_interpolate_19 : decode cX9_interpolate 19 = .ok (.ifnonnull 5, 3) := by decide +kernel
theorem dX9_interpolate_22 : decode cX9_interpolate 22 = .ok (.iconst (-1), 1) := by decide +kernel
theorem dX9_interpolate_23 : decode cX9_interpolate 23 = .ok (.ireturn, 1) := by decide +kernel
theorem dX9_interpolate_24 : decode cX9_interpolate 24 = .ok (.aload 4, 2) := by decide +kernel
theorem dX9_interpolate_26 : decode cX9_interpolate 26 = .ok (.getfield 248, 3) := by decide +kernel
theorem dX9_interpolate_29 : decode cX9_interpolate 29 = .ok (.iconst 1, 1) := by decide +kernel
theorem dX9_interpolate_30 : decode cX9_interpolate 30 = .ok (.if_icmp .eq 9, 3) := by decide +kernel
theorem dX9_interpolate_33 : decode cX9_interpolate 33 = .ok (.aload 4, 2) := by decide +kernel
theorem dX9_interpolate_35 : decode cX9_interpolate 35 = .ok (.invokevirtual 251, 3) := by decide +kernel
theorem dX9_interpolate_38 : decode cX9_interpolate 38 = .ok (.ireturn, 1) := by decide +kernel
theorem dX9_interpolate_39 : decode cX9_interpolate 39 = .ok (.aload 4, 2) := by decide +kernel
theorem dX9_interpolate_41 : decode cX9_interpolate 41 = .ok (.getfield 254, 3) := by decide +kernel
theorem dX9_interpolate_44 : decode cX9_interpolate 44 = .ok (.aload_n 0, 1) := by decide +kernel
theorem dX9_interpolate_45 : decode cX9_interpolate 45 = .ok (.getfield 12, 3) := by decide +kernel
theorem dX9_interpolate_48 : decode cX9_interpolate 48 = .ok (.getfield 109, 3) := by decide +kernel
theorem dX9_interpolate_51 : decode cX9_interpolate 51 = .ok (.if_icmp .eq 6, 3) := by decide +kernel
theorem dX9_interpolate_54 : decode cX9_interpolate 54 = .ok (.bipush (-9), 2) := by decide +kernel
theorem dX9_interpolate_56 : decode cX9_interpolate 56 = .ok (.ireturn, 1) := by decide +kernel
theorem dX9_interpolate_57 : decode cX9_interpolate 57 = .ok (.aload_n 0, 1) := by decide +kernel
theorem dX9_interpolate_58 : decode cX9_interpolate 58 = .ok (.getfield 38, 3) := by decide +kernel
theorem dX9_interpolate_61 : decode cX9_interpolate 61 = .ok (.aload_n 3, 1) := by decide +kernel
theorem dX9_interpolate_62 : decode cX9_interpolate 62 = .ok (.invokevirtual 234, 3) := by decide +kernel
theorem dX9_interpolate_65 : decode cX9_interpolate 65 = .ok (.iconst 0, 1) := by decide +kernel
theorem dX9_interpolate_66 : decode cX9_interpolate 66 = .ok (.istore 5, 2) := by decide +kernel
theorem dX9_interpolate_68 : decode cX9_interpolate 68 = .ok (.iload 5, 2) := by decide +kernel
theorem dX9_interpolate_70 : decode cX9_interpolate 70 = .ok (.aload_n 0, 1) := by decide +kernel
theorem dX9_interpolate_71 : decode cX9_interpolate 71 = .ok (.getfield 12, 3) := by decide +kernel
theorem dX9_interpolate_74 : decode cX9_interpolate 74 = .ok (.getfield 109, 3) := by decide +kernel
theorem dX9_interpolate_77 : decode cX9_interpolate 77 = .ok (.if_icmp .ge 34, 3) := by decide +kernel
theorem dX9_interpolate_80 : decode cX9_interpolate 80 = .ok (.aload_n 0, 1) := by decide +kernel
theorem dX9_interpolate_81 : decode cX9_interpolate 81 = .ok (.getfield 38, 3) := by decide +kernel
theorem dX9_interpolate_84 : decode cX9_interpolate 84 = .ok (.getfield 238, 3) := by decide +kernel
theorem dX9_interpolate_87 : decode cX9_interpolate 87 = .ok (.iload 5, 2) := by decide +kernel
theorem dX9_interpolate_89 : decode cX9_interpolate 89 = .ok (.aload_n 0, 1) := by decide +kernel
theorem dX9_interpolate_90 : decode cX9_interpolate 90 = .ok (.getfield 12, 3) := by decide +kernel
theorem dX9_interpolate_93 : decode cX9_interpolate 93 = .ok (.aload 4, 2) := by decide +kernel
theorem dX9_interpolate_95 : decode cX9_interpolate 95 = .ok (.getfield 257, 3) := by decide +kernel
theorem dX9_interpolate_98 : decode cX9_interpolate 98 = .ok (.iload 5, 2) := by decide +kernel
theorem dX9_interpolate_100 : decode cX9_interpolate 100 = .ok (.iaload, 1) := by decide +kernel
theorem dX9_interpolate_101 : decode cX9_interpolate 101 = .ok (.invokevirtual 224, 3) := by decide +kernel
theorem dX9_interpolate_104 : decode cX9_interpolate 104 = .ok (.iastore, 1) := by decide +kernel
theorem dX9_interpolate_105 : decode cX9_interpolate 105 = .ok (.iinc 5 1, 3) := by decide +kernel
theorem dX9_interpolate_108 : decode cX9_interpolate 108 = .ok (.goto (-40), 3) := by decide +kernel
theorem dX9_interpolate_111 : decode cX9_interpolate 111 = .ok (.aload_n 0, 1) := by decide +kernel
theorem dX9_interpolate_112 : decode cX9_interpolate 112 = .ok (.invokevirtual 241, 3) := by decide +kernel
theorem dX9_interpolate_115 : decode cX9_interpolate 115 = .ok (.ireturn, 1) := by decide +kernel
theorem dX9_loadBasisPolynomial_0 : decode cX9_loadBasisPolynomial 0 = .ok (.aload_n 0, 1) := by decide +kernel
theorem dX9_loadBasisPolynomial_1 : decode cX9_loadBasisPolynomial 1 = .ok (.iload_n 1, 1) := by decide +kernel
theorem dX9_loadBasisPolynomial_2 : decode cX9_loadBasisPolynomial 2 = .ok (.iload_n 2, 1) := by decide +kernel
theorem dX9_loadBasisPolynomial_3 : decode cX9_loadBasisPolynomial 3 = .ok (.invokevirtual 197, 3) := by decide +kernel
theorem dX9_loadBasisPolynomial_6 : decode cX9_loadBasisPolynomial 6 = .ok (.astore_n 3, 1) := by decide +kernel
theorem dX9_loadBasisPolynomial_7 : decode cX9_loadBasisPolynomial 7 = .ok (.aload_n 3, 1) := by decide +kernel
theorem dX9_loadBasisPolynomial_8 : decode cX9_loadBasisPolynomial 8 = .ok (.ifnonnull 5, 3) := by decide +kernel
theorem dX9_loadBasisPolynomial_11 : decode cX9_loadBasisPolynomial 11 = .ok (.iconst (-1), 1) := by decide +kernel
theorem dX9_loadBasisPolynomial_12 : decode cX9_loadBasisPolynomial 12 = .ok (.ireturn, 1) := by decide +kernel
theorem dX9_loadBasisPolynomial_13 : decode cX9_loadBasisPolynomial 13 = .ok (.aload_n 0, 1) := by decide +kernel
theorem dX9_loadBasisPolynomial_14 : decode cX9_loadBasisPolynomial 14 = .ok (.getfield 19, 3) := by decide +kernel
theorem dX9_loadBasisPolynomial_17 : decode cX9_loadBasisPolynomial 17 = .ok (.invokevirtual 96, 3) := by decide +kernel
theorem dX9_loadBasisPolynomial_20 : decode cX9_loadBasisPolynomial 20 = .ok (.iconst 0, 1) := by decide +kernel
theorem dX9_loadBasisPolynomial_21 : decode cX9_loadBasisPolynomial 21 = .ok (.istore 4, 2) := by decide +kernel
theorem dX9_loadBasisPolynomial_23 : decode cX9_loadBasisPolynomial 23 = .ok (.iload 4, 2) := by decide +kernel
theorem dX9_loadBasisPolynomial_25 : decode cX9_loadBasisPolynomial 25 = .ok (.aload_n 3, 1) := by decide +kernel
theorem dX9_loadBasisPolynomial_26 : decode cX9_loadBasisPolynomial 26 = .ok (.getfield 260, 3) := by decide +kernel
theorem dX9_loadBasisPolynomial_29 : decode cX9_loadBasisPolynomial 29 = .ok (.if_icmp .ge 31, 3) := by decide +kernel
theorem dX9_loadBasisPolynomial_32 : decode cX9_loadBasisPolynomial 32 = .ok (.aload_n 0, 1) := by decide +kernel
theorem dX9_loadBasisPolynomial_33 : decode cX9_loadBasisPolynomial 33 = .ok (.getfield 19, 3) := by decide +kernel
theorem dX9_loadBasisPolynomial_36 : decode cX9_loadBasisPolynomial 36 = .ok (.getfield 221, 3) := by decide +kernel
theorem dX9_loadBasisPolynomial_39 : decode cX9_loadBasisPolynomial 39 = .ok (.aload_n 3, 1) := by decide +kernel
theorem dX9_loadBasisPolynomial_40 : decode cX9_loadBasisPolynomial 40 = .ok (.getfield 261, 3) := by decide +kernel
theorem dX9_loadBasisPolynomial_43 : decode cX9_loadBasisPolynomial 43 = .ok (.iload 4, 2) := by decide +kernel
theorem dX9_loadBasisPolynomial_45 : decode cX9_loadBasisPolynomial 45 = .ok (.iaload, 1) := by decide +kernel
theorem dX9_loadBasisPolynomial_46 : decode cX9_loadBasisPolynomial 46 = .ok (.aload_n 3, 1) := by decide +kernel
theorem dX9_loadBasisPolynomial_47 : decode cX9_loadBasisPolynomial 47 = .ok (.getfield 264, 3) := by decide +kernel
theorem dX9_loadBasisPolynomial_50 : decode cX9_loadBasisPolynomial 50 = .ok (.iload 4, 2) := by decide +kernel
theorem dX9_loadBasisPolynomial_52 : decode cX9_loadBasisPolynomial 52 = .ok (.iaload, 1) := by decide +kernel
theorem dX9_loadBasisPolynomial_53 : decode cX9_loadBasisPolynomial 53 = .ok (.iastore, 1) := by decide +kernel
theorem dX9_loadBasisPolynomial_54 : decode cX9_loadBasisPolynomial 54 = .ok (.iinc 4 1, 3) := by decide +kernel
theorem dX9_loadBasisPolynomial_57 : decode cX9_loadBasisPolynomial 57 = .ok (.goto (-34), 3) := by decide +kernel
theorem dX9_loadBasisPolynomial_60 : decode cX9_loadBasisPolynomial 60 = .ok (.aload_n 0, 1) := by decide +kernel
theorem dX9_loadBasisPolynomial_61 : decode cX9_loadBasisPolynomial 61 = .ok (.getfield 19, 3) := by decide +kernel
theorem dX9_loadBasisPolynomial_64 : decode cX9_loadBasisPolynomial 64 = .ok (.invokevirtual 227, 3) := by decide +kernel
theorem dX9_loadBasisPolynomial_67 : decode cX9_loadBasisPolynomial 67 = .ok (.ireturn, 1) := by decide +kernel
theorem dX9_appendInput_0 : decode cX9_appendInput 0 = .ok (.iload_n 1, 1) := by decide +kernel
theorem dX9_appendInput_1 : decode cX9_appendInput 1 = .ok (.iconst 1, 1) := by decide +kernel
theorem dX9_appendInput_2 : decode cX9_appendInput 2 = .ok (.if_icmp .lt 9, 3) := by decide +kernel
theorem dX9_appendInput_5 : decode cX9_appendInput 5 = .ok (.iload_n 1, 1) := by decide +kernel
theorem dX9_appendInput_6 : decode cX9_appendInput 6 = .ok (.bipush 127, 2) := by decide +kernel
theorem dX9_appendInput_8 : decode cX9_appendInput 8 = .ok (.if_icmp .le 6, 3) := by decide +kernel
theorem dX9_appendInput_11 : decode cX9_appendInput 11 = .ok (.bipush (-2), 2) := by decide +kernel
theorem dX9_appendInput_13 : decode cX9_appendInput 13 = .ok (.ireturn, 1) := by decide +kernel
theorem dX9_appendInput_14 : decode cX9_appendInput 14 = .ok (.aload_n 0, 1) := by decide +kernel
theorem dX9_appendInput_15 : decode cX9_appendInput 15 = .ok (.getfield 66, 3) := by decide +kernel
theorem dX9_appendInput_18 : decode cX9_appendInput 18 = .ok (.getfield 265, 3) := by decide +kernel
theorem dX9_appendInput_21 : decode cX9_appendInput 21 = .ok (.bipush 60, 2) := by decide +kernel
theorem dX9_appendInput_23 : decode cX9_appendInput 23 = .ok (.if_icmp .lt 6, 3) := by decide +kernel
theorem dX9_appendInput_26 : decode cX9_appendInput 26 = .ok (.bipush (-4), 2) := by decide +kernel
theorem dX9_appendInput_28 : decode cX9_appendInput 28 = .ok (.ireturn, 1) := by decide +kernel
theorem dX9_appendInput_29 : decode cX9_appendInput 29 = .ok (.aload_n 0, 1) := by decide +kernel
theorem dX9_appendInput_30 : decode cX9_appendInput 30 = .ok (.getfield 66, 3) := by decide +kernel
theorem dX9_appendInput_33 : decode cX9_appendInput 33 = .ok (.iload_n 1, 1) := by decide +kernel
theorem dX9_appendInput_34 : decode cX9_appendInput 34 = .ok (.invokevirtual 266, 3) := by decide +kernel
theorem dX9_appendInput_37 : decode cX9_appendInput 37 = .ok (.aload_n 0, 1) := by decide +kernel
theorem dX9_appendInput_38 : decode cX9_appendInput 38 = .ok (.getfield 66, 3) := by decide +kernel
theorem dX9_appendInput_41 : decode cX9_appendInput 41 = .ok (.getfield 265, 3) := by decide +kernel
theorem dX9_appendInput_44 : decode cX9_appendInput 44 = .ok (.ireturn, 1) := by decide +kernel
theorem dX9_inputLength_0 : decode cX9_inputLength 0 = .ok (.aload_n 0, 1) := by decide +kernel
theorem dX9_inputLength_1 : decode cX9_inputLength 1 = .ok (.getfield 66, 3) := by decide +kernel
theorem dX9_inputLength_4 : decode cX9_inputLength 4 = .ok (.getfield 265, 3) := by decide +kernel
theorem dX9_inputLength_7 : decode cX9_inputLength 7 = .ok (.ireturn, 1) := by decide +kernel
theorem dX9_parsePoints_0 : decode cX9_parsePoints 0 = .ok (.aload_n 0, 1) := by decide +kernel
theorem dX9_parsePoints_1 : decode cX9_parsePoints 1 = .ok (.getfield 66, 3) := by decide +kernel
theorem dX9_parsePoints_4 : decode cX9_parsePoints 4 = .ok (.invokevirtual 268, 3) := by decide +kernel
theorem dX9_parsePoints_7 : decode cX9_parsePoints 7 = .ok (.istore_n 1, 1) := by decide +kernel
theorem dX9_parsePoints_8 : decode cX9_parsePoints 8 = .ok (.aload_n 0, 1) := by decide +kernel
theorem dX9_parsePoints_9 : decode cX9_parsePoints 9 = .ok (.getfield 66, 3) := by decide +kernel
theorem dX9_parsePoints_12 : decode cX9_parsePoints 12 = .ok (.iconst 0, 1) := by decide +kernel
theorem dX9_parsePoints_13 : decode cX9_parsePoints 13 = .ok (.putfield 265, 3) := by decide +kernel
theorem dX9_parsePoints_16 : decode cX9_parsePoints 16 = .ok (.iload_n 1, 1) := by decide +kernel
theorem dX9_parsePoints_17 : decode cX9_parsePoints 17 = .ok (.iconst (-1), 1) := by decide +kernel
theorem dX9_parsePoints_18 : decode cX9_parsePoints 18 = .ok (.if_icmp .eq 8, 3) := by decide +kernel
theorem dX9_parsePoints_21 : decode cX9_parsePoints 21 = .ok (.bipush (-100), 2) := by decide +kernel
theorem dX9_parsePoints_23 : decode cX9_parsePoints 23 = .ok (.iload_n 1, 1) := by decide +kernel
theorem dX9_parsePoints_24 : decode cX9_parsePoints 24 = .ok (.isub, 1) := by decide +kernel
theorem dX9_parsePoints_25 : decode cX9_parsePoints 25 = .ok (.ireturn, 1) := by decide +kernel
theorem dX9_parsePoints_26 : decode cX9_parsePoints 26 = .ok (.aload_n 0, 1) := by decide +kernel
theorem dX9_parsePoints_27 : decode cX9_parsePoints 27 = .ok (.getfield 12, 3) := by decide +kernel
theorem dX9_parsePoints_30 : decode cX9_parsePoints 30 = .ok (.getfield 109, 3) := by decide +kernel
theorem dX9_parsePoints_33 : decode cX9_parsePoints 33 = .ok (.istore_n 2, 1) := by decide +kernel
theorem dX9_parsePoints_34 : decode cX9_parsePoints 34 = .ok (.iconst 0, 1) := by decide +kernel
theorem dX9_parsePoints_35 : decode cX9_parsePoints 35 = .ok (.istore_n 3, 1) := by decide +kernel
theorem dX9_parsePoints_36 : decode cX9_parsePoints 36 = .ok (.iload_n 3, 1) := by decide +kernel
theorem dX9_parsePoints_37 : decode cX9_parsePoints 37 = .ok (.iconst 1, 1) := by decide +kernel
theorem dX9_parsePoints_38 : decode cX9_parsePoints 38 = .ok (.iadd, 1) := by decide +kernel
theorem dX9_parsePoints_39 : decode cX9_parsePoints 39 = .ok (.aload_n 0, 1) := by decide +kernel
theorem dX9_parsePoints_40 : decode cX9_parsePoints 40 = .ok (.getfield 66, 3) := by decide +kernel
theorem dX9_parsePoints_43 : decode cX9_parsePoints 43 = .ok (.getfield 271, 3) := by decide +kernel
theorem dX9_parsePoints_46 : decode cX9_parsePoints 46 = .ok (.if_icmp .ge 34, 3) := by decide +kernel
theorem dX9_parsePoints_49 : decode cX9_parsePoints 49 = .ok (.aload_n 0, 1) := by decide +kernel
theorem dX9_parsePoints_50 : decode cX9_parsePoints 50 = .ok (.aload_n 0, 1) := by decide +kernel
theorem dX9_parsePoints_51 : decode cX9_parsePoints 51 = .ok (.getfield 66, 3) := by decide +kernel
theorem dX9_parsePoints_54 : decode cX9_parsePoints 54 = .ok (.getfield 274, 3) := by decide +kernel
theorem dX9_parsePoints_57 : decode cX9_parsePoints 57 = .ok (.iload_n 3, 1) := by decide +kernel
theorem dX9_parsePoints_58 : decode cX9_parsePoints 58 = .ok (.iaload, 1) := by decide +kernel
theorem dX9_parsePoints_59 : decode cX9_parsePoints 59 = .ok (.aload_n 0, 1) := by decide +kernel
theorem dX9_parsePoints_60 : decode cX9_parsePoints 60 = .ok (.getfield 66, 3) := by decide +kernel
theorem dX9_parsePoints_63 : decode cX9_parsePoints 63 = .ok (.getfield 274, 3) := by decide +kernel
theorem dX9_parsePoints_66 : decode cX9_parsePoints 66 = .ok (.iload_n 3, 1) := by decide +kernel
theorem dX9_parsePoints_67 : decode cX9_parsePoints 67 = .ok (.iconst 1, 1) := by decide +kernel
theorem dX9_parsePoints_68 : decode cX9_parsePoints 68 = .ok (.iadd, 1) := by decide +kernel
theorem dX9_parsePoints_69 : decode cX9_parsePoints 69 = .ok (.iaload, 1) := by decide +kernel
theorem dX9_parsePoints_70 : decode cX9_parsePoints 70 = .ok (.invokevirtual 275, 3) := by decide +kernel
theorem dX9_parsePoints_73 : decode cX9_parsePoints 73 = .ok (.pop, 1) := by decide +kernel
theorem dX9_parsePoints_74 : decode cX9_parsePoints 74 = .ok (.iinc 3 2, 3) := by decide +kernel
theorem dX9_parsePoints_77 : decode cX9_parsePoints 77 = .ok (.goto (-41), 3) := by decide +kernel
theorem dX9_parsePoints_80 : decode cX9_parsePoints 80 = .ok (.aload_n 0, 1) := by decide +kernel
theorem dX9_parsePoints_81 : decode cX9_parsePoints 81 = .ok (.getfield 12, 3) := by decide +kernel
theorem dX9_parsePoints_84 : decode cX9_parsePoints 84 = .ok (.getfield 109, 3) := by decide +kernel
theorem dX9_parsePoints_87 : decode cX9_parsePoints 87 = .ok (.iload_n 2, 1) := by decide +kernel
theorem dX9_parsePoints_88 : decode cX9_parsePoints 88 = .ok (.isub, 1) := by decide +kernel
theorem dX9_parsePoints_89 : decode cX9_parsePoints 89 = .ok (.ireturn, 1) := by decide +kernel
theorem dX9_format_0 : decode cX9_format 0 = .ok (.aload_n 0, 1) := by decide +kernel
theorem dX9_format_1 : decode cX9_format 1 = .ok (.iload_n 1, 1) := by decide +kernel
theorem dX9_format_2 : decode cX9_format 2 = .ok (.iload_n 2, 1) := by decide +kernel
theorem dX9_format_3 : decode cX9_format 3 = .ok (.invokevirtual 197, 3) := by decide +kernel
theorem dX9_format_6 : decode cX9_format 6 = .ok (.astore_n 3, 1) := by decide +kernel
theorem dX9_format_7 : decode cX9_format 7 = .ok (.aload_n 3, 1) := by decide +kernel
theorem dX9_format_8 : decode cX9_format 8 = .ok (.ifnonnull 5, 3) := by decide +kernel
theorem dX9_format_11 : decode cX9_format 11 = .ok (.iconst (-1), 1) := by decide +kernel
theorem dX9_format_12 : decode cX9_format 12 = .ok (.ireturn, 1) := by decide +kernel
theorem dX9_format_13 : decode cX9_format 13 = .ok (.aload_n 0, 1) := by decide +kernel
theorem dX9_format_14 : decode cX9_format 14 = .ok (.getfield 73, 3) := by decide +kernel
theorem dX9_format_17 : decode cX9_format 17 = .ok (.iconst 0, 1) := by decide +kernel
theorem dX9_format_18 : decode cX9_format 18 = .ok (.invokevirtual 278, 3) := by decide +kernel
theorem dX9_format_21 : decode cX9_format 21 = .ok (.aload_n 0, 1) := by decide +kernel
theorem dX9_format_22 : decode cX9_format 22 = .ok (.aload_n 3, 1) := by decide +kernel
theorem dX9_format_23 : decode cX9_format 23 = .ok (.getfield 159, 3) := by decide +kernel
theorem dX9_format_26 : decode cX9_format 26 = .ok (.iconst 1, 1) := by decide +kernel
theorem dX9_format_27 : decode cX9_format 27 = .ok (.invokevirtual 281, 3) := by decide +kernel
theorem dX9_format_30 : decode cX9_format 30 = .ok (.iconst 0, 1) := by decide +kernel
theorem dX9_format_31 : decode cX9_format 31 = .ok (.istore 4, 2) := by decide +kernel
theorem dX9_format_33 : decode cX9_format 33 = .ok (.iload 4, 2) := by decide +kernel
theorem dX9_format_35 : decode cX9_format 35 = .ok (.aload_n 3, 1) := by decide +kernel
theorem dX9_format_36 : decode cX9_format 36 = .ok (.getfield 260, 3) := by decide +kernel
theorem dX9_format_39 : decode cX9_format 39 = .ok (.if_icmp .ge 51, 3) := by decide +kernel
theorem dX9_format_42 : decode cX9_format 42 = .ok (.aload_n 3, 1) := by decide +kernel
theorem dX9_format_43 : decode cX9_format 43 = .ok (.getfield 261, 3) := by decide +kernel
theorem dX9_format_46 : decode cX9_format 46 = .ok (.iload 4, 2) := by decide +kernel
theorem dX9_format_48 : decode cX9_format 48 = .ok (.iaload, 1) := by decide +kernel
theorem dX9_format_49 : decode cX9_format 49 = .ok (.aload_n 3, 1) := by decide +kernel
theorem dX9_format_50 : decode cX9_format 50 = .ok (.getfield 159, 3) := by decide +kernel
theorem dX9_format_53 : decode cX9_format 53 = .ok (.if_icmp .eq 31, 3) := by decide +kernel
theorem dX9_format_56 : decode cX9_format 56 = .ok (.aload_n 0, 1) := by decide +kernel
theorem dX9_format_57 : decode cX9_format 57 = .ok (.getfield 73, 3) := by decide +kernel
theorem dX9_format_60 : decode cX9_format 60 = .ok (.bipush 43, 2) := by decide +kernel
theorem dX9_format_62 : decode cX9_format 62 = .ok (.invokevirtual 284, 3) := by decide +kernel
theorem dX9_format_65 : decode cX9_format 65 = .ok (.pop, 1) := by decide +kernel
theorem dX9_format_66 : decode cX9_format 66 = .ok (.aload_n 0, 1) := by decide +kernel
theorem dX9_format_67 : decode cX9_format 67 = .ok (.aload_n 3, 1) := by decide +kernel
theorem dX9_format_68 : decode cX9_format 68 = .ok (.getfield 261, 3) := by decide +kernel
theorem dX9_format_71 : decode cX9_format 71 = .ok (.iload 4, 2) := by decide +kernel
theorem dX9_format_73 : decode cX9_format 73 = .ok (.iaload, 1) := by decide +kernel
theorem dX9_format_74 : decode cX9_format 74 = .ok (.aload_n 3, 1) := by decide +kernel
theorem dX9_format_75 : decode cX9_format 75 = .ok (.getfield 264, 3) := by decide +kernel
theorem dX9_format_78 : decode cX9_format 78 = .ok (.iload 4, 2) := by decide +kernel
theorem dX9_format_80 : decode cX9_format 80 = .ok (.iaload, 1) := by decide +kernel
theorem dX9_format_81 : decode cX9_format 81 = .ok (.invokevirtual 281, 3) := by decide +kernel
theorem dX9_format_84 : decode cX9_format 84 = .ok (.iinc 4 1, 3) := by decide +kernel
theorem dX9_format_87 : decode cX9_format 87 = .ok (.goto (-54), 3) := by decide +kernel
theorem dX9_format_90 : decode cX9_format 90 = .ok (.aload_n 0, 1) := by decide +kernel
theorem dX9_format_91 : decode cX9_format 91 = .ok (.getfield 73, 3) := by decide +kernel
theorem dX9_format_94 : decode cX9_format 94 = .ok (.invokevirtual 287, 3) := by decide +kernel
theorem dX9_format_97 : decode cX9_format 97 = .ok (.ireturn, 1) := by decide +kernel
theorem dX9_outputByte_0 : decode cX9_outputByte 0 = .ok (.iload_n 1, 1) := by decide +kernel
theorem dX9_outputByte_1 : decode cX9_outputByte 1 = .ok (.ifCond .lt 14, 3) := by decide +kernel
theorem dX9_outputByte_4 : decode cX9_outputByte 4 = .ok (.iload_n 1, 1) := by decide +kernel
theorem dX9_outputByte_5 : decode cX9_outputByte 5 = .ok (.aload_n 0, 1) := by decide +kernel
theorem dX9_outputByte_6 : decode cX9_outputByte 6 = .ok (.getfield 73, 3) := by decide +kernel
theorem dX9_outputByte_9 : decode cX9_outputByte 9 = .ok (.invokevirtual 287, 3) := by decide +kernel
theorem dX9_outputByte_12 : decode cX9_outputByte 12 = .ok (.if_icmp .lt 5, 3) := by decide +kernel
theorem dX9_outputByte_15 : decode cX9_outputByte 15 = .ok (.iconst (-1), 1) := by decide +kernel
theorem dX9_outputByte_16 : decode cX9_outputByte 16 = .ok (.ireturn, 1) := by decide +kernel
theorem dX9_outputByte_17 : decode cX9_outputByte 17 = .ok (.aload_n 0, 1) := by decide +kernel
theorem dX9_outputByte_18 : decode cX9_outputByte 18 = .ok (.getfield 73, 3) := by decide +kernel
theorem dX9_outputByte_21 : decode cX9_outputByte 21 = .ok (.iload_n 1, 1) := by decide +kernel
theorem dX9_outputByte_22 : decode cX9_outputByte 22 = .ok (.invokevirtual 289, 3) := by decide +kernel
theorem dX9_outputByte_25 : decode cX9_outputByte 25 = .ok (.ireturn, 1) := by decide +kernel
theorem dX9_newArray_0 : decode cX9_newArray 0 = .ok (.aload_n 0, 1) := by decide +kernel
theorem dX9_newArray_1 : decode cX9_newArray 1 = .ok (.iload_n 1, 1) := by decide +kernel
theorem dX9_newArray_2 : decode cX9_newArray 2 = .ok (.invokevirtual 244, 3) := by decide +kernel
theorem dX9_newArray_5 : decode cX9_newArray 5 = .ok (.astore_n 3, 1) := by decide +kernel
theorem dX9_newArray_6 : decode cX9_newArray 6 = .ok (.aload_n 3, 1) := by decide +kernel
theorem dX9_newArray_7 : decode cX9_newArray 7 = .ok (.ifnonnull 5, 3) := by decide +kernel
theorem dX9_newArray_10 : decode cX9_newArray 10 = .ok (.iconst (-1), 1) := by decide +kernel
theorem dX9_newArray_11 : decode cX9_newArray 11 = .ok (.ireturn, 1) := by decide +kernel
theorem dX9_newArray_12 : decode cX9_newArray 12 = .ok (.iload_n 2, 1) := by decide +kernel
theorem dX9_newArray_13 : decode cX9_newArray 13 = .ok (.bipush 20, 2) := by decide +kernel
theorem dX9_newArray_15 : decode cX9_newArray 15 = .ok (.if_icmp .le 6, 3) := by decide +kernel
theorem dX9_newArray_18 : decode cX9_newArray 18 = .ok (.bipush (-2), 2) := by decide +kernel
theorem dX9_newArray_20 : decode cX9_newArray 20 = .ok (.ireturn, 1) := by decide +kernel
theorem dX9_newArray_21 : decode cX9_newArray 21 = .ok (.iload_n 2, 1) := by decide +kernel
theorem dX9_newArray_22 : decode cX9_newArray 22 = .ok (.ifCond .ge 6, 3) := by decide +kernel
theorem dX9_newArray_25 : decode cX9_newArray 25 = .ok (.bipush (-8), 2) := by decide +kernel
theorem dX9_newArray_27 : decode cX9_newArray 27 = .ok (.ireturn, 1) := by decide +kernel
theorem dX9_newArray_28 : decode cX9_newArray 28 = .ok (.aload_n 3, 1) := by decide +kernel
theorem dX9_newArray_29 : decode cX9_newArray 29 = .ok (.iload_n 2, 1) := by decide +kernel
theorem dX9_newArray_30 : decode cX9_newArray 30 = .ok (.invokevirtual 293, 3) := by decide +kernel
theorem dX9_newArray_33 : decode cX9_newArray 33 = .ok (.iconst 1, 1) := by decide +kernel
theorem dX9_newArray_34 : decode cX9_newArray 34 = .ok (.ireturn, 1) := by decide +kernel
theorem dX9_setElement_0 : decode cX9_setElement 0 = .ok (.aload_n 0, 1) := by decide +kernel
theorem dX9_setElement_1 : decode cX9_setElement 1 = .ok (.iload_n 1, 1) := by decide +kernel
theorem dX9_setElement_2 : decode cX9_setElement 2 = .ok (.invokevirtual 244, 3) := by decide +kernel
theorem dX9_setElement_5 : decode cX9_setElement 5 = .ok (.astore 4, 2) := by decide +kernel
theorem dX9_setElement_7 : decode cX9_setElement 7 = .ok (.aload 4, 2) := by decide +kernel
theorem dX9_setElement_9 : decode cX9_setElement 9 = .ok (.ifnonnull 5, 3) := by decide +kernel
theorem dX9_setElement_12 : decode cX9_setElement 12 = .ok (.iconst (-1), 1) := by decide +kernel
theorem dX9_setElement_13 : decode cX9_setElement 13 = .ok (.ireturn, 1) := by decide +kernel
theorem dX9_setElement_14 : decode cX9_setElement 14 = .ok (.iload_n 3, 1) := by decide +kernel
theorem dX9_setElement_15 : decode cX9_setElement 15 = .ok (.ifCond .lt 10, 3) := by decide +kernel
theorem dX9_setElement_18 : decode cX9_setElement 18 = .ok (.iload_n 3, 1) := by decide +kernel
theorem dX9_setElement_19 : decode cX9_setElement 19 = .ok (.sipush 9999, 3) := by decide +kernel
theorem dX9_setElement_22 : decode cX9_setElement 22 = .ok (.if_icmp .le 6, 3) := by decide +kernel
theorem dX9_setElement_25 : decode cX9_setElement 25 = .ok (.bipush (-2), 2) := by decide +kernel
theorem dX9_setElement_27 : decode cX9_setElement 27 = .ok (.ireturn, 1) := by decide +kernel
theorem dX9_setElement_28 : decode cX9_setElement 28 = .ok (.aload 4, 2) := by decide +kernel
theorem dX9_setElement_30 : decode cX9_setElement 30 = .ok (.getfield 248, 3) := by decide +kernel
theorem dX9_setElement_33 : decode cX9_setElement 33 = .ok (.iconst 1, 1) := by decide +kernel
theorem dX9_setElement_34 : decode cX9_setElement 34 = .ok (.if_icmp .eq 9, 3) := by decide +kernel
theorem dX9_setElement_37 : decode cX9_setElement 37 = .ok (.aload 4, 2) := by decide +kernel
theorem dX9_setElement_39 : decode cX9_setElement 39 = .ok (.invokevirtual 251, 3) := by decide +kernel
theorem dX9_setElement_42 : decode cX9_setElement 42 = .ok (.ireturn, 1) := by decide +kernel
theorem dX9_setElement_43 : decode cX9_setElement 43 = .ok (.iload_n 2, 1) := by decide +kernel
theorem dX9_setElement_44 : decode cX9_setElement 44 = .ok (.ifCond .lt 12, 3) := by decide +kernel
theorem dX9_setElement_47 : decode cX9_setElement 47 = .ok (.iload_n 2, 1) := by decide +kernel
theorem dX9_setElement_48 : decode cX9_setElement 48 = .ok (.aload 4, 2) := by decide +kernel
theorem dX9_setElement_50 : decode cX9_setElement 50 = .ok (.getfield 254, 3) := by decide +kernel
theorem dX9_setElement_53 : decode cX9_setElement 53 = .ok (.if_icmp .lt 5, 3) := by decide +kernel
theorem dX9_setElement_56 : decode cX9_setElement 56 = .ok (.iconst (-1), 1) := by decide +kernel
theorem dX9_setElement_57 : decode cX9_setElement 57 = .ok (.ireturn, 1) := by decide +kernel
theorem dX9_setElement_58 : decode cX9_setElement 58 = .ok (.aload 4, 2) := by decide +kernel
theorem dX9_setElement_60 : decode cX9_setElement 60 = .ok (.getfield 257, 3) := by decide +kernel
theorem dX9_setElement_63 : decode cX9_setElement 63 = .ok (.iload_n 2, 1) := by decide +kernel
theorem dX9_setElement_64 : decode cX9_setElement 64 = .ok (.iaload, 1) := by decide +kernel
theorem dX9_setElement_65 : decode cX9_setElement 65 = .ok (.istore 5, 2) := by decide +kernel
theorem dX9_setElement_67 : decode cX9_setElement 67 = .ok (.aload 4, 2) := by decide +kernel
theorem dX9_setElement_69 : decode cX9_setElement 69 = .ok (.getfield 257, 3) := by decide +kernel
theorem dX9_setElement_72 : decode cX9_setElement 72 = .ok (.iload_n 2, 1) := by decide +kernel
theorem dX9_setElement_73 : decode cX9_setElement 73 = .ok (.iload_n 3, 1) := by decide +kernel
theorem dX9_setElement_74 : decode cX9_setElement 74 = .ok (.iastore, 1) := by decide +kernel
theorem dX9_setElement_75 : decode cX9_setElement 75 = .ok (.iload 5, 2) := by decide +kernel
theorem dX9_setElement_77 : decode cX9_setElement 77 = .ok (.ireturn, 1) := by decide +kernel
theorem dX9_element_0 : decode cX9_element 0 = .ok (.aload_n 0, 1) := by decide +kernel
theorem dX9_element_1 : decode cX9_element 1 = .ok (.iload_n 1, 1) := by decide +kernel
theorem dX9_element_2 : decode cX9_element 2 = .ok (.invokevirtual 244, 3) := by decide +kernel
theorem dX9_element_5 : decode cX9_element 5 = .ok (.astore_n 3, 1) := by decide +kernel
theorem dX9_element_6 : decode cX9_element 6 = .ok (.aload_n 3, 1) := by decide +kernel
theorem dX9_element_7 : decode cX9_element 7 = .ok (.ifnonnull 5, 3) := by decide +kernel
theorem dX9_element_10 : decode cX9_element 10 = .ok (.iconst (-1), 1) := by decide +kernel
theorem dX9_element_11 : decode cX9_element 11 = .ok (.ireturn, 1) := by decide +kernel
theorem dX9_element_12 : decode cX9_element 12 = .ok (.aload_n 3, 1) := by decide +kernel
theorem dX9_element_13 : decode cX9_element 13 = .ok (.getfield 248, 3) := by decide +kernel
theorem dX9_element_16 : decode cX9_element 16 = .ok (.iconst 1, 1) := by decide +kernel
theorem dX9_element_17 : decode cX9_element 17 = .ok (.if_icmp .eq 8, 3) := by decide +kernel
theorem dX9_element_20 : decode cX9_element 20 = .ok (.aload_n 3, 1) := by decide +kernel
theorem dX9_element_21 : decode cX9_element 21 = .ok (.invokevirtual 251, 3) := by decide +kernel
theorem dX9_element_24 : decode cX9_element 24 = .ok (.ireturn, 1) := by decide +kernel
theorem dX9_element_25 : decode cX9_element 25 = .ok (.iload_n 2, 1) := by decide +kernel
theorem dX9_element_26 : decode cX9_element 26 = .ok (.ifCond .lt 11, 3) := by decide +kernel
theorem dX9_element_29 : decode cX9_element 29 = .ok (.iload_n 2, 1) := by decide +kernel
theorem dX9_element_30 : decode cX9_element 30 = .ok (.aload_n 3, 1) := by decide +kernel
theorem dX9_element_31 : decode cX9_element 31 = .ok (.getfield 254, 3) := by decide +kernel
theorem dX9_element_34 : decode cX9_element 34 = .ok (.if_icmp .lt 5, 3) := by decide +kernel
theorem dX9_element_37 : decode cX9_element 37 = .ok (.iconst (-1), 1) := by decide +kernel
theorem dX9_element_38 : decode cX9_element 38 = .ok (.ireturn, 1) := by decide +kernel
theorem dX9_element_39 : decode cX9_element 39 = .ok (.aload_n 3, 1) := by decide +kernel
theorem dX9_element_40 : decode cX9_element 40 = .ok (.getfield 257, 3) := by decide +kernel
theorem dX9_element_43 : decode cX9_element 43 = .ok (.iload_n 2, 1) := by decide +kernel
theorem dX9_element_44 : decode cX9_element 44 = .ok (.iaload, 1) := by decide +kernel
theorem dX9_element_45 : decode cX9_element 45 = .ok (.ireturn, 1) := by decide +kernel
theorem dX9_storePolynomial_0 : decode cX9_storePolynomial 0 = .ok (.aload_n 0, 1) := by decide +kernel
theorem dX9_storePolynomial_1 : decode cX9_storePolynomial 1 = .ok (.iload_n 1, 1) := by decide +kernel
theorem dX9_storePolynomial_2 : decode cX9_storePolynomial 2 = .ok (.invokevirtual 244, 3) := by decide +kernel
theorem dX9_storePolynomial_5 : decode cX9_storePolynomial 5 = .ok (.astore_n 2, 1) := by decide +kernel
theorem dX9_storePolynomial_6 : decode cX9_storePolynomial 6 = .ok (.aload_n 2, 1) := by decide +kernel
theorem dX9_storePolynomial_7 : decode cX9_storePolynomial 7 = .ok (.ifnonnull 5, 3) := by decide +kernel
theorem dX9_storePolynomial_10 : decode cX9_storePolynomial 10 = .ok (.iconst (-1), 1) := by decide +kernel
theorem dX9_storePolynomial_11 : decode cX9_storePolynomial 11 = .ok (.ireturn, 1) := by decide +kernel
theorem dX9_storePolynomial_12 : decode cX9_storePolynomial 12 = .ok (.aload_n 2, 1) := by decide +kernel
theorem dX9_storePolynomial_13 : decode cX9_storePolynomial 13 = .ok (.aload_n 0, 1) := by decide +kernel
theorem dX9_storePolynomial_14 : decode cX9_storePolynomial 14 = .ok (.getfield 19, 3) := by decide +kernel
theorem dX9_storePolynomial_17 : decode cX9_storePolynomial 17 = .ok (.invokevirtual 296, 3) := by decide +kernel
theorem dX9_storePolynomial_20 : decode cX9_storePolynomial 20 = .ok (.aload_n 0, 1) := by decide +kernel
theorem dX9_storePolynomial_21 : decode cX9_storePolynomial 21 = .ok (.getfield 19, 3) := by decide +kernel
theorem dX9_storePolynomial_24 : decode cX9_storePolynomial 24 = .ok (.invokevirtual 227, 3) := by decide +kernel
theorem dX9_storePolynomial_27 : decode cX9_storePolynomial 27 = .ok (.ireturn, 1) := by decide +kernel
theorem dX9_loadPolynomial_0 : decode cX9_loadPolynomial 0 = .ok (.aload_n 0, 1) := by decide +kernel
theorem dX9_loadPolynomial_1 : decode cX9_loadPolynomial 1 = .ok (.iload_n 1, 1) := by decide +kernel
theorem dX9_loadPolynomial_2 : decode cX9_loadPolynomial 2 = .ok (.invokevirtual 244, 3) := by decide +kernel
theorem dX9_loadPolynomial_5 : decode cX9_loadPolynomial 5 = .ok (.astore_n 2, 1) := by decide +kernel
theorem dX9_loadPolynomial_6 : decode cX9_loadPolynomial 6 = .ok (.aload_n 2, 1) := by decide +kernel
theorem dX9_loadPolynomial_7 : decode cX9_loadPolynomial 7 = .ok (.ifnonnull 5, 3) := by decide +kernel
theorem dX9_loadPolynomial_10 : decode cX9_loadPolynomial 10 = .ok (.iconst (-1), 1) := by decide +kernel
theorem dX9_loadPolynomial_11 : decode cX9_loadPolynomial 11 = .ok (.ireturn, 1) := by decide +kernel
theorem dX9_loadPolynomial_12 : decode cX9_loadPolynomial 12 = .ok (.aload_n 2, 1) := by decide +kernel
theorem dX9_loadPolynomial_13 : decode cX9_loadPolynomial 13 = .ok (.getfield 248, 3) := by decide +kernel
theorem dX9_loadPolynomial_16 : decode cX9_loadPolynomial 16 = .ok (.ifCond .ne 6, 3) := by decide +kernel
theorem dX9_loadPolynomial_19 : decode cX9_loadPolynomial 19 = .ok (.bipush (-6), 2) := by decide +kernel
theorem dX9_loadPolynomial_21 : decode cX9_loadPolynomial 21 = .ok (.ireturn, 1) := by decide +kernel
theorem dX9_loadPolynomial_22 : decode cX9_loadPolynomial 22 = .ok (.aload_n 2, 1) := by decide +kernel
theorem dX9_loadPolynomial_23 : decode cX9_loadPolynomial 23 = .ok (.getfield 248, 3) := by decide +kernel
theorem dX9_loadPolynomial_26 : decode cX9_loadPolynomial 26 = .ok (.iconst 2, 1) := by decide +kernel
theorem dX9_loadPolynomial_27 : decode cX9_loadPolynomial 27 = .ok (.if_icmp .eq 6, 3) := by decide +kernel
theorem dX9_loadPolynomial_30 : decode cX9_loadPolynomial 30 = .ok (.bipush (-7), 2) := by decide +kernel
theorem dX9_loadPolynomial_32 : decode cX9_loadPolynomial 32 = .ok (.ireturn, 1) := by decide +kernel
theorem dX9_loadPolynomial_33 : decode cX9_loadPolynomial 33 = .ok (.iconst 0, 1) := by decide +kernel
theorem dX9_loadPolynomial_34 : decode cX9_loadPolynomial 34 = .ok (.istore_n 3, 1) := by decide +kernel
theorem dX9_loadPolynomial_35 : decode cX9_loadPolynomial 35 = .ok (.iload_n 3, 1) := by decide +kernel
theorem dX9_loadPolynomial_36 : decode cX9_loadPolynomial 36 = .ok (.bipush 81, 2) := by decide +kernel
theorem dX9_loadPolynomial_38 : decode cX9_loadPolynomial 38 = .ok (.if_icmp .ge 31, 3) := by decide +kernel
theorem dX9_loadPolynomial_41 : decode cX9_loadPolynomial 41 = .ok (.aload_n 0, 1) := by decide +kernel
theorem dX9_loadPolynomial_42 : decode cX9_loadPolynomial 42 = .ok (.getfield 19, 3) := by decide +kernel
theorem dX9_loadPolynomial_45 : decode cX9_loadPolynomial 45 = .ok (.getfield 221, 3) := by decide +kernel
theorem dX9_loadPolynomial_48 : decode cX9_loadPolynomial 48 = .ok (.iload_n 3, 1) := by decide +kernel
theorem dX9_loadPolynomial_49 : decode cX9_loadPolynomial 49 = .ok (.aload_n 0, 1) := by decide +kernel
theorem dX9_loadPolynomial_50 : decode cX9_loadPolynomial 50 = .ok (.getfield 12, 3) := by decide +kernel
theorem dX9_loadPolynomial_53 : decode cX9_loadPolynomial 53 = .ok (.aload_n 2, 1) := by decide +kernel
theorem dX9_loadPolynomial_54 : decode cX9_loadPolynomial 54 = .ok (.getfield 257, 3) := by decide +kernel
theorem dX9_loadPolynomial_57 : decode cX9_loadPolynomial 57 = .ok (.iload_n 3, 1) := by decide +kernel
theorem dX9_loadPolynomial_58 : decode cX9_loadPolynomial 58 = .ok (.iaload, 1) := by decide +kernel
theorem dX9_loadPolynomial_59 : decode cX9_loadPolynomial 59 = .ok (.invokevirtual 224, 3) := by decide +kernel
theorem dX9_loadPolynomial_62 : decode cX9_loadPolynomial 62 = .ok (.iastore, 1) := by decide +kernel
theorem dX9_loadPolynomial_63 : decode cX9_loadPolynomial 63 = .ok (.iinc 3 1, 3) := by decide +kernel
theorem dX9_loadPolynomial_66 : decode cX9_loadPolynomial 66 = .ok (.goto (-31), 3) := by decide +kernel
theorem dX9_loadPolynomial_69 : decode cX9_loadPolynomial 69 = .ok (.aload_n 0, 1) := by decide +kernel
theorem dX9_loadPolynomial_70 : decode cX9_loadPolynomial 70 = .ok (.getfield 19, 3) := by decide +kernel
theorem dX9_loadPolynomial_73 : decode cX9_loadPolynomial 73 = .ok (.invokevirtual 227, 3) := by decide +kernel
theorem dX9_loadPolynomial_76 : decode cX9_loadPolynomial 76 = .ok (.ireturn, 1) := by decide +kernel
theorem dX9_clearSlot_0 : decode cX9_clearSlot 0 = .ok (.aload_n 0, 1) := by decide +kernel
theorem dX9_clearSlot_1 : decode cX9_clearSlot 1 = .ok (.iload_n 1, 1) := by decide +kernel
theorem dX9_clearSlot_2 : decode cX9_clearSlot 2 = .ok (.invokevirtual 244, 3) := by decide +kernel
theorem dX9_clearSlot_5 : decode cX9_clearSlot 5 = .ok (.astore_n 2, 1) := by decide +kernel
theorem dX9_clearSlot_6 : decode cX9_clearSlot 6 = .ok (.aload_n 2, 1) := by decide +kernel
theorem dX9_clearSlot_7 : decode cX9_clearSlot 7 = .ok (.ifnonnull 5, 3) := by decide +kernel
theorem dX9_clearSlot_10 : decode cX9_clearSlot 10 = .ok (.iconst (-1), 1) := by decide +kernel
theorem dX9_clearSlot_11 : decode cX9_clearSlot 11 = .ok (.ireturn, 1) := by decide +kernel
theorem dX9_clearSlot_12 : decode cX9_clearSlot 12 = .ok (.aload_n 2, 1) := by decide +kernel
theorem dX9_clearSlot_13 : decode cX9_clearSlot 13 = .ok (.getfield 248, 3) := by decide +kernel
theorem dX9_clearSlot_16 : decode cX9_clearSlot 16 = .ok (.istore_n 3, 1) := by decide +kernel
theorem dX9_clearSlot_17 : decode cX9_clearSlot 17 = .ok (.aload_n 2, 1) := by decide +kernel
theorem dX9_clearSlot_18 : decode cX9_clearSlot 18 = .ok (.iconst 0, 1) := by decide +kernel
theorem dX9_clearSlot_19 : decode cX9_clearSlot 19 = .ok (.putfield 248, 3) := by decide +kernel
theorem dX9_clearSlot_22 : decode cX9_clearSlot 22 = .ok (.iload_n 3, 1) := by decide +kernel
theorem dX9_clearSlot_23 : decode cX9_clearSlot 23 = .ok (.ireturn, 1) := by decide +kernel
theorem dX9_firstDifference_0 : decode cX9_firstDifference 0 = .ok (.aload_n 0, 1) := by decide +kernel
theorem dX9_firstDifference_1 : decode cX9_firstDifference 1 = .ok (.iload_n 1, 1) := by decide +kernel
theorem dX9_firstDifference_2 : decode cX9_firstDifference 2 = .ok (.invokevirtual 244, 3) := by decide +kernel
theorem dX9_firstDifference_5 : decode cX9_firstDifference 5 = .ok (.astore_n 3, 1) := by decide +kernel
theorem dX9_firstDifference_6 : decode cX9_firstDifference 6 = .ok (.aload_n 0, 1) := by decide +kernel
theorem dX9_firstDifference_7 : decode cX9_firstDifference 7 = .ok (.iload_n 2, 1) := by decide +kernel
theorem dX9_firstDifference_8 : decode cX9_firstDifference 8 = .ok (.invokevirtual 172, 3) := by decide +kernel
theorem dX9_firstDifference_11 : decode cX9_firstDifference 11 = .ok (.astore 4, 2) := by decide +kernel
theorem dX9_firstDifference_13 : decode cX9_firstDifference 13 = .ok (.aload_n 3, 1) := by decide +kernel
theorem dX9_firstDifference_14 : decode cX9_firstDifference 14 = .ok (.ifnull 8, 3) := by decide +kernel
theorem dX9_firstDifference_17 : decode cX9_firstDifference 17 = .ok (.aload 4, 2) := by decide +kernel
theorem dX9_firstDifference_19 : decode cX9_firstDifference 19 = .ok (.ifnonnull 5, 3) := by decide +kernel
theorem dX9_firstDifference_22 : decode cX9_firstDifference 22 = .ok (.iconst (-1), 1) := by decide +kernel
theorem dX9_firstDifference_23 : decode cX9_firstDifference 23 = .ok (.ireturn, 1) := by decide +kernel
theorem dX9_firstDifference_24 : decode cX9_firstDifference 24 = .ok (.aload_n 3, 1) := by decide +kernel
theorem dX9_firstDifference_25 : decode cX9_firstDifference 25 = .ok (.getfield 248, 3) := by decide +kernel
theorem dX9_firstDifference_28 : decode cX9_firstDifference 28 = .ok (.iconst 1, 1) := by decide +kernel
theorem dX9_firstDifference_29 : decode cX9_firstDifference 29 = .ok (.if_icmp .eq 8, 3) := by decide +kernel
theorem dX9_firstDifference_32 : decode cX9_firstDifference 32 = .ok (.aload_n 3, 1) := by decide +kernel
theorem dX9_firstDifference_33 : decode cX9_firstDifference 33 = .ok (.invokevirtual 251, 3) := by decide +kernel
theorem dX9_firstDifference_36 : decode cX9_firstDifference 36 = .ok (.ireturn, 1) := by decide +kernel
theorem dX9_firstDifference_37 : decode cX9_firstDifference 37 = .ok (.iconst 0, 1) := by decide +kernel
theorem dX9_firstDifference_38 : decode cX9_firstDifference 38 = .ok (.istore 5, 2) := by decide +kernel
theorem dX9_firstDifference_40 : decode cX9_firstDifference 40 = .ok (.iload 5, 2) := by decide +kernel
theorem dX9_firstDifference_42 : decode cX9_firstDifference 42 = .ok (.aload_n 3, 1) := by decide +kernel
theorem dX9_firstDifference_43 : decode cX9_firstDifference 43 = .ok (.getfield 254, 3) := by decide +kernel
theorem dX9_firstDifference_46 : decode cX9_firstDifference 46 = .ok (.if_icmp .ge 37, 3) := by decide +kernel
theorem dX9_firstDifference_49 : decode cX9_firstDifference 49 = .ok (.iload 5, 2) := by decide +kernel
theorem dX9_firstDifference_51 : decode cX9_firstDifference 51 = .ok (.bipush 9, 2) := by decide +kernel
theorem dX9_firstDifference_53 : decode cX9_firstDifference 53 = .ok (.if_icmp .ge 21, 3) := by decide +kernel
theorem dX9_firstDifference_56 : decode cX9_firstDifference 56 = .ok (.aload_n 3, 1) := by decide +kernel
theorem dX9_firstDifference_57 : decode cX9_firstDifference 57 = .ok (.getfield 257, 3) := by decide +kernel
theorem dX9_firstDifference_60 : decode cX9_firstDifference 60 = .ok (.iload 5, 2) := by decide +kernel
theorem dX9_firstDifference_62 : decode cX9_firstDifference 62 = .ok (.iaload, 1) := by decide +kernel
theorem dX9_firstDifference_63 : decode cX9_firstDifference 63 = .ok (.aload 4, 2) := by decide +kernel
theorem dX9_firstDifference_65 : decode cX9_firstDifference 65 = .ok (.getfield 151, 3) := by decide +kernel
theorem dX9_firstDifference_68 : decode cX9_firstDifference 68 = .ok (.iload 5, 2) := by decide +kernel
theorem dX9_firstDifference_70 : decode cX9_firstDifference 70 = .ok (.iaload, 1) := by decide +kernel
theorem dX9_firstDifference_71 : decode cX9_firstDifference 71 = .ok (.if_icmp .eq 6, 3) := by decide +kernel
theorem dX9_firstDifference_74 : decode cX9_firstDifference 74 = .ok (.iload 5, 2) := by decide +kernel
theorem dX9_firstDifference_76 : decode cX9_firstDifference 76 = .ok (.ireturn, 1) := by decide +kernel
theorem dX9_firstDifference_77 : decode cX9_firstDifference 77 = .ok (.iinc 5 1, 3) := by decide +kernel
theorem dX9_firstDifference_80 : decode cX9_firstDifference 80 = .ok (.goto (-40), 3) := by decide +kernel
theorem dX9_firstDifference_83 : decode cX9_firstDifference 83 = .ok (.bipush (-5), 2) := by decide +kernel
theorem dX9_firstDifference_85 : decode cX9_firstDifference 85 = .ok (.ireturn, 1) := by decide +kernel
theorem dX9_saveSnapshot_0 : decode cX9_saveSnapshot 0 = .ok (.aload_n 0, 1) := by decide +kernel
theorem dX9_saveSnapshot_1 : decode cX9_saveSnapshot 1 = .ok (.getfield 23, 3) := by decide +kernel
theorem dX9_saveSnapshot_4 : decode cX9_saveSnapshot 4 = .ok (.aload_n 0, 1) := by decide +kernel
theorem dX9_saveSnapshot_5 : decode cX9_saveSnapshot 5 = .ok (.getfield 12, 3) := by decide +kernel
theorem dX9_saveSnapshot_8 : decode cX9_saveSnapshot 8 = .ok (.invokevirtual 300, 3) := by decide +kernel
theorem dX9_saveSnapshot_11 : decode cX9_saveSnapshot 11 = .ok (.aload_n 0, 1) := by decide +kernel
theorem dX9_saveSnapshot_12 : decode cX9_saveSnapshot 12 = .ok (.getfield 26, 3) := by decide +kernel
theorem dX9_saveSnapshot_15 : decode cX9_saveSnapshot 15 = .ok (.aload_n 0, 1) := by decide +kernel
theorem dX9_saveSnapshot_16 : decode cX9_saveSnapshot 16 = .ok (.getfield 19, 3) := by decide +kernel
theorem dX9_saveSnapshot_19 : decode cX9_saveSnapshot 19 = .ok (.invokevirtual 303, 3) := by decide +kernel
theorem dX9_saveSnapshot_22 : decode cX9_saveSnapshot 22 = .ok (.aload_n 0, 1) := by decide +kernel
theorem dX9_saveSnapshot_23 : decode cX9_saveSnapshot 23 = .ok (.iconst 1, 1) := by decide +kernel
theorem dX9_saveSnapshot_24 : decode cX9_saveSnapshot 24 = .ok (.putfield 29, 3) := by decide +kernel
theorem dX9_saveSnapshot_27 : decode cX9_saveSnapshot 27 = .ok (.aload_n 0, 1) := by decide +kernel
theorem dX9_saveSnapshot_28 : decode cX9_saveSnapshot 28 = .ok (.getfield 12, 3) := by decide +kernel
theorem dX9_saveSnapshot_31 : decode cX9_saveSnapshot 31 = .ok (.getfield 109, 3) := by decide +kernel
theorem dX9_saveSnapshot_34 : decode cX9_saveSnapshot 34 = .ok (.ireturn, 1) := by decide +kernel
theorem dX9_restoreSnapshot_0 : decode cX9_restoreSnapshot 0 = .ok (.aload_n 0, 1) := by decide +kernel
theorem dX9_restoreSnapshot_1 : decode cX9_restoreSnapshot 1 = .ok (.getfield 29, 3) := by decide +kernel
theorem dX9_restoreSnapshot_4 : decode cX9_restoreSnapshot 4 = .ok (.ifCond .ne 6, 3) := by decide +kernel
theorem dX9_restoreSnapshot_7 : decode cX9_restoreSnapshot 7 = .ok (.bipush (-5), 2) := by decide +kernel
theorem dX9_restoreSnapshot_9 : decode cX9_restoreSnapshot 9 = .ok (.ireturn, 1) := by decide +kernel
theorem dX9_restoreSnapshot_10 : decode cX9_restoreSnapshot 10 = .ok (.aload_n 0, 1) := by decide +kernel
theorem dX9_restoreSnapshot_11 : decode cX9_restoreSnapshot 11 = .ok (.getfield 12, 3) := by decide +kernel
theorem dX9_restoreSnapshot_14 : decode cX9_restoreSnapshot 14 = .ok (.aload_n 0, 1) := by decide +kernel
theorem dX9_restoreSnapshot_15 : decode cX9_restoreSnapshot 15 = .ok (.getfield 23, 3) := by decide +kernel
theorem dX9_restoreSnapshot_18 : decode cX9_restoreSnapshot 18 = .ok (.invokevirtual 300, 3) := by decide +kernel
theorem dX9_restoreSnapshot_21 : decode cX9_restoreSnapshot 21 = .ok (.aload_n 0, 1) := by decide +kernel
theorem dX9_restoreSnapshot_22 : decode cX9_restoreSnapshot 22 = .ok (.getfield 19, 3) := by decide +kernel
theorem dX9_restoreSnapshot_25 : decode cX9_restoreSnapshot 25 = .ok (.aload_n 0, 1) := by decide +kernel
theorem dX9_restoreSnapshot_26 : decode cX9_restoreSnapshot 26 = .ok (.getfield 26, 3) := by decide +kernel
theorem dX9_restoreSnapshot_29 : decode cX9_restoreSnapshot 29 = .ok (.invokevirtual 303, 3) := by decide +kernel
theorem dX9_restoreSnapshot_32 : decode cX9_restoreSnapshot 32 = .ok (.aload_n 0, 1) := by decide +kernel
theorem dX9_restoreSnapshot_33 : decode cX9_restoreSnapshot 33 = .ok (.getfield 59, 3) := by decide +kernel
theorem dX9_restoreSnapshot_36 : decode cX9_restoreSnapshot 36 = .ok (.invokevirtual 99, 3) := by decide +kernel
theorem dX9_restoreSnapshot_39 : decode cX9_restoreSnapshot 39 = .ok (.aload_n 0, 1) := by decide +kernel
theorem dX9_restoreSnapshot_40 : decode cX9_restoreSnapshot 40 = .ok (.getfield 12, 3) := by decide +kernel
theorem dX9_restoreSnapshot_43 : decode cX9_restoreSnapshot 43 = .ok (.getfield 109, 3) := by decide +kernel
theorem dX9_restoreSnapshot_46 : decode cX9_restoreSnapshot 46 = .ok (.ireturn, 1) := by decide +kernel
theorem dX9_isAllowedPrime_0 : decode cX9_isAllowedPrime 0 = .ok (.getstatic 305, 3) := by decide +kernel
theorem dX9_isAllowedPrime_3 : decode cX9_isAllowedPrime 3 = .ok (.astore_n 1, 1) := by decide +kernel
theorem dX9_isAllowedPrime_4 : decode cX9_isAllowedPrime 4 = .ok (.aload_n 1, 1) := by decide +kernel
theorem dX9_isAllowedPrime_5 : decode cX9_isAllowedPrime 5 = .ok (.arraylength, 1) := by decide +kernel
theorem dX9_isAllowedPrime_6 : decode cX9_isAllowedPrime 6 = .ok (.istore_n 2, 1) := by decide +kernel
theorem dX9_isAllowedPrime_7 : decode cX9_isAllowedPrime 7 = .ok (.iconst 0, 1) := by decide +kernel
theorem dX9_isAllowedPrime_8 : decode cX9_isAllowedPrime 8 = .ok (.istore_n 3, 1) := by decide +kernel
theorem dX9_isAllowedPrime_9 : decode cX9_isAllowedPrime 9 = .ok (.iload_n 3, 1) := by decide +kernel
theorem dX9_isAllowedPrime_10 : decode cX9_isAllowedPrime 10 = .ok (.iload_n 2, 1) := by decide +kernel
theorem dX9_isAllowedPrime_11 : decode cX9_isAllowedPrime 11 = .ok (.if_icmp .ge 22, 3) := by decide +kernel
theorem dX9_isAllowedPrime_14 : decode cX9_isAllowedPrime 14 = .ok (.aload_n 1, 1) := by decide +kernel
theorem dX9_isAllowedPrime_15 : decode cX9_isAllowedPrime 15 = .ok (.iload_n 3, 1) := by decide +kernel
theorem dX9_isAllowedPrime_16 : decode cX9_isAllowedPrime 16 = .ok (.iaload, 1) := by decide +kernel
theorem dX9_isAllowedPrime_17 : decode cX9_isAllowedPrime 17 = .ok (.istore 4, 2) := by decide +kernel
theorem dX9_isAllowedPrime_19 : decode cX9_isAllowedPrime 19 = .ok (.iload 4, 2) := by decide +kernel
theorem dX9_isAllowedPrime_21 : decode cX9_isAllowedPrime 21 = .ok (.iload_n 0, 1) := by decide +kernel
theorem dX9_isAllowedPrime_22 : decode cX9_isAllowedPrime 22 = .ok (.if_icmp .ne 5, 3) := by decide +kernel
theorem dX9_isAllowedPrime_25 : decode cX9_isAllowedPrime 25 = .ok (.iconst 1, 1) := by decide +kernel
theorem dX9_isAllowedPrime_26 : decode cX9_isAllowedPrime 26 = .ok (.ireturn, 1) := by decide +kernel
theorem dX9_isAllowedPrime_27 : decode cX9_isAllowedPrime 27 = .ok (.iinc 3 1, 3) := by decide +kernel
theorem dX9_isAllowedPrime_30 : decode cX9_isAllowedPrime 30 = .ok (.goto (-21), 3) := by decide +kernel
theorem dX9_isAllowedPrime_33 : decode cX9_isAllowedPrime 33 = .ok (.iconst 0, 1) := by decide +kernel
theorem dX9_isAllowedPrime_34 : decode cX9_isAllowedPrime 34 = .ok (.ireturn, 1) := by decide +kernel
theorem dX9_isExponent_0 : decode cX9_isExponent 0 = .ok (.iload_n 0, 1) := by decide +kernel
theorem dX9_isExponent_1 : decode cX9_isExponent 1 = .ok (.ifCond .lt 13, 3) := by decide +kernel
theorem dX9_isExponent_4 : decode cX9_isExponent 4 = .ok (.iload_n 0, 1) := by decide +kernel
theorem dX9_isExponent_5 : decode cX9_isExponent 5 = .ok (.bipush 9, 2) := by decide +kernel
theorem dX9_isExponent_7 : decode cX9_isExponent 7 = .ok (.if_icmp .ge 7, 3) := by decide +kernel
theorem dX9_isExponent_10 : decode cX9_isExponent 10 = .ok (.iconst 1, 1) := by decide +kernel
theorem dX9_isExponent_11 : decode cX9_isExponent 11 = .ok (.goto 4, 3) := by decide +kernel
theorem dX9_isExponent_14 : decode cX9_isExponent 14 = .ok (.iconst 0, 1) := by decide +kernel
theorem dX9_isExponent_15 : decode cX9_isExponent 15 = .ok (.ireturn, 1) := by decide +kernel
theorem dX9_isWeight_0 : decode cX9_isWeight 0 = .ok (.iload_n 0, 1) := by decide +kernel
theorem dX9_isWeight_1 : decode cX9_isWeight 1 = .ok (.ifCond .lt 31, 3) := by decide +kernel
theorem dX9_isWeight_4 : decode cX9_isWeight 4 = .ok (.iload_n 0, 1) := by decide +kernel
theorem dX9_isWeight_5 : decode cX9_isWeight 5 = .ok (.bipush 99, 2) := by decide +kernel
theorem dX9_isWeight_7 : decode cX9_isWeight 7 = .ok (.if_icmp .gt 25, 3) := by decide +kernel
theorem dX9_isWeight_10 : decode cX9_isWeight 10 = .ok (.iload_n 1, 1) := by decide +kernel
theorem dX9_isWeight_11 : decode cX9_isWeight 11 = .ok (.ifCond .lt 21, 3) := by decide +kernel
theorem dX9_isWeight_14 : decode cX9_isWeight 14 = .ok (.iload_n 1, 1) := by decide +kernel
theorem dX9_isWeight_15 : decode cX9_isWeight 15 = .ok (.bipush 99, 2) := by decide +kernel
theorem dX9_isWeight_17 : decode cX9_isWeight 17 = .ok (.if_icmp .gt 15, 3) := by decide +kernel
theorem dX9_isWeight_20 : decode cX9_isWeight 20 = .ok (.iload_n 0, 1) := by decide +kernel
theorem dX9_isWeight_21 : decode cX9_isWeight 21 = .ok (.ifCond .ne 7, 3) := by decide +kernel
theorem dX9_isWeight_24 : decode cX9_isWeight 24 = .ok (.iload_n 1, 1) := by decide +kernel
theorem dX9_isWeight_25 : decode cX9_isWeight 25 = .ok (.ifCond .eq 7, 3) := by decide +kernel
theorem dX9_isWeight_28 : decode cX9_isWeight 28 = .ok (.iconst 1, 1) := by decide +kernel
theorem dX9_isWeight_29 : decode cX9_isWeight 29 = .ok (.goto 4, 3) := by decide +kernel
theorem dX9_isWeight_32 : decode cX9_isWeight 32 = .ok (.iconst 0, 1) := by decide +kernel
theorem dX9_isWeight_33 : decode cX9_isWeight 33 = .ok (.ireturn, 1) := by decide +kernel
theorem dX9_isOrder_0 : decode cX9_isOrder 0 = .ok (.iload_n 0, 1) := by decide +kernel
theorem dX9_isOrder_1 : decode cX9_isOrder 1 = .ok (.iload_n 1, 1) := by decide +kernel
theorem dX9_isOrder_2 : decode cX9_isOrder 2 = .ok (.invokestatic 185, 3) := by decide +kernel
theorem dX9_isOrder_5 : decode cX9_isOrder 5 = .ok (.ifCond .eq 16, 3) := by decide +kernel
theorem dX9_isOrder_8 : decode cX9_isOrder 8 = .ok (.iload_n 2, 1) := by decide +kernel
theorem dX9_isOrder_9 : decode cX9_isOrder 9 = .ok (.ifCond .eq 8, 3) := by decide +kernel
theorem dX9_isOrder_12 : decode cX9_isOrder 12 = .ok (.iload_n 2, 1) := by decide +kernel
theorem dX9_isOrder_13 : decode cX9_isOrder 13 = .ok (.iconst 1, 1) := by decide +kernel
theorem dX9_isOrder_14 : decode cX9_isOrder 14 = .ok (.if_icmp .ne 7, 3) := by decide +kernel
theorem dX9_isOrder_17 : decode cX9_isOrder 17 = .ok (.iconst 1, 1) := by decide +kernel
theorem dX9_isOrder_18 : decode cX9_isOrder 18 = .ok (.goto 4, 3) := by decide +kernel
theorem dX9_isOrder_21 : decode cX9_isOrder 21 = .ok (.iconst 0, 1) := by decide +kernel
theorem dX9_isOrder_22 : decode cX9_isOrder 22 = .ok (.ireturn, 1) := by decide +kernel
theorem dX9_decimalExponents_0 : decode cX9_decimalExponents 0 = .ok (.bipush 10, 2) := by decide +kernel
theorem dX9_decimalExponents_2 : decode cX9_decimalExponents 2 = .ok (.iload_n 0, 1) := by decide +kernel
theorem dX9_decimalExponents_3 : decode cX9_decimalExponents 3 = .ok (.bipush 9, 2) := by decide +kernel
theorem dX9_decimalExponents_5 : decode cX9_decimalExponents 5 = .ok (.idiv, 1) := by decide +kernel
theorem dX9_decimalExponents_6 : decode cX9_decimalExponents 6 = .ok (.imul, 1) := by decide +kernel
theorem dX9_decimalExponents_7 : decode cX9_decimalExponents 7 = .ok (.iload_n 0, 1) := by decide +kernel
theorem dX9_decimalExponents_8 : decode cX9_decimalExponents 8 = .ok (.bipush 9, 2) := by decide +kernel
theorem dX9_decimalExponents_10 : decode cX9_decimalExponents 10 = .ok (.irem, 1) := by decide +kernel
theorem dX9_decimalExponents_11 : decode cX9_decimalExponents 11 = .ok (.iadd, 1) := by decide +kernel
theorem dX9_decimalExponents_12 : decode cX9_decimalExponents 12 = .ok (.ireturn, 1) := by decide +kernel
theorem dX9_computeOrder_0 : decode cX9_computeOrder 0 = .ok (.aload_n 0, 1) := by decide +kernel
theorem dX9_computeOrder_1 : decode cX9_computeOrder 1 = .ok (.getfield 45, 3) := by decide +kernel
theorem dX9_computeOrder_4 : decode cX9_computeOrder 4 = .ok (.iload_n 1, 1) := by decide +kernel
theorem dX9_computeOrder_5 : decode cX9_computeOrder 5 = .ok (.iload_n 2, 1) := by decide +kernel
theorem dX9_computeOrder_6 : decode cX9_computeOrder 6 = .ok (.iload_n 3, 1) := by decide +kernel
theorem dX9_computeOrder_7 : decode cX9_computeOrder 7 = .ok (.invokevirtual 308, 3) := by decide +kernel
theorem dX9_computeOrder_10 : decode cX9_computeOrder 10 = .ok (.aload_n 0, 1) := by decide +kernel
theorem dX9_computeOrder_11 : decode cX9_computeOrder 11 = .ok (.getfield 52, 3) := by decide +kernel
theorem dX9_computeOrder_14 : decode cX9_computeOrder 14 = .ok (.aload_n 0, 1) := by decide +kernel
theorem dX9_computeOrder_15 : decode cX9_computeOrder 15 = .ok (.getfield 45, 3) := by decide +kernel
theorem dX9_computeOrder_18 : decode cX9_computeOrder 18 = .ok (.aload_n 0, 1) := by decide +kernel
theorem dX9_computeOrder_19 : decode cX9_computeOrder 19 = .ok (.getfield 38, 3) := by decide +kernel
theorem dX9_computeOrder_22 : decode cX9_computeOrder 22 = .ok (.invokevirtual 311, 3) := by decide +kernel
theorem dX9_computeOrder_25 : decode cX9_computeOrder 25 = .ok (.return_, 1) := by decide +kernel
theorem dX9_refreshFan_0 : decode cX9_refreshFan 0 = .ok (.aload_n 0, 1) := by decide +kernel
theorem dX9_refreshFan_1 : decode cX9_refreshFan 1 = .ok (.getfield 59, 3) := by decide +kernel
theorem dX9_refreshFan_4 : decode cX9_refreshFan 4 = .ok (.getfield 171, 3) := by decide +kernel
theorem dX9_refreshFan_7 : decode cX9_refreshFan 7 = .ok (.ifCond .ne 18, 3) := by decide +kernel
theorem dX9_refreshFan_10 : decode cX9_refreshFan 10 = .ok (.aload_n 0, 1) := by decide +kernel
theorem dX9_refreshFan_11 : decode cX9_refreshFan 11 = .ok (.getfield 59, 3) := by decide +kernel
theorem dX9_refreshFan_14 : decode cX9_refreshFan 14 = .ok (.aload_n 0, 1) := by decide +kernel
theorem dX9_refreshFan_15 : decode cX9_refreshFan 15 = .ok (.getfield 45, 3) := by decide +kernel
theorem dX9_refreshFan_18 : decode cX9_refreshFan 18 = .ok (.aload_n 0, 1) := by decide +kernel
theorem dX9_refreshFan_19 : decode cX9_refreshFan 19 = .ok (.getfield 38, 3) := by decide +kernel
theorem dX9_refreshFan_22 : decode cX9_refreshFan 22 = .ok (.invokevirtual 315, 3) := by decide +kernel
theorem dX9_refreshFan_25 : decode cX9_refreshFan 25 = .ok (.return_, 1) := by decide +kernel
theorem dX9_findCone_0 : decode cX9_findCone 0 = .ok (.aload_n 0, 1) := by decide +kernel
theorem dX9_findCone_1 : decode cX9_findCone 1 = .ok (.invokevirtual 168, 3) := by decide +kernel
theorem dX9_findCone_4 : decode cX9_findCone 4 = .ok (.aload_n 0, 1) := by decide +kernel
theorem dX9_findCone_5 : decode cX9_findCone 5 = .ok (.getfield 59, 3) := by decide +kernel
theorem dX9_findCone_8 : decode cX9_findCone 8 = .ok (.iload_n 1, 1) := by decide +kernel
theorem dX9_findCone_9 : decode cX9_findCone 9 = .ok (.invokevirtual 192, 3) := by decide +kernel
theorem dX9_findCone_12 : decode cX9_findCone 12 = .ok (.areturn, 1) := by decide +kernel
theorem dX9_findBasisPolynomial_0 : decode cX9_findBasisPolynomial 0 = .ok (.aload_n 0, 1) := by decide +kernel
theorem dX9_findBasisPolynomial_1 : decode cX9_findBasisPolynomial 1 = .ok (.iload_n 1, 1) := by decide +kernel
theorem dX9_findBasisPolynomial_2 : decode cX9_findBasisPolynomial 2 = .ok (.invokevirtual 172, 3) := by decide +kernel
theorem dX9_findBasisPolynomial_5 : decode cX9_findBasisPolynomial 5 = .ok (.astore_n 3, 1) := by decide +kernel
theorem dX9_findBasisPolynomial_6 : decode cX9_findBasisPolynomial 6 = .ok (.aload_n 3, 1) := by decide +kernel
theorem dX9_findBasisPolynomial_7 : decode cX9_findBasisPolynomial 7 = .ok (.ifnonnull 7, 3) := by decide +kernel
theorem dX9_findBasisPolynomial_10 : decode cX9_findBasisPolynomial 10 = .ok (.aconst_null, 1) := by decide +kernel
theorem dX9_findBasisPolynomial_11 : decode cX9_findBasisPolynomial 11 = .ok (.goto 8, 3) := by decide +kernel
theorem dX9_findBasisPolynomial_14 : decode cX9_findBasisPolynomial 14 = .ok (.aload_n 3, 1) := by decide +kernel
theorem dX9_findBasisPolynomial_15 : decode cX9_findBasisPolynomial 15 = .ok (.iload_n 2, 1) := by decide +kernel
theorem dX9_findBasisPolynomial_16 : decode cX9_findBasisPolynomial 16 = .ok (.invokevirtual 155, 3) := by decide +kernel
theorem dX9_findBasisPolynomial_19 : decode cX9_findBasisPolynomial 19 = .ok (.areturn, 1) := by decide +kernel
theorem dX9_findSlot_0 : decode cX9_findSlot 0 = .ok (.iload_n 1, 1) := by decide +kernel
theorem dX9_findSlot_1 : decode cX9_findSlot 1 = .ok (.ifCond .lt 17, 3) := by decide +kernel
theorem dX9_findSlot_4 : decode cX9_findSlot 4 = .ok (.iload_n 1, 1) := by decide +kernel
theorem dX9_findSlot_5 : decode cX9_findSlot 5 = .ok (.iconst 4, 1) := by decide +kernel
theorem dX9_findSlot_6 : decode cX9_findSlot 6 = .ok (.if_icmp .ge 12, 3) := by decide +kernel
theorem dX9_findSlot_9 : decode cX9_findSlot 9 = .ok (.aload_n 0, 1) := by decide +kernel
theorem dX9_findSlot_10 : decode cX9_findSlot 10 = .ok (.getfield 79, 3) := by decide +kernel
theorem dX9_findSlot_13 : decode cX9_findSlot 13 = .ok (.iload_n 1, 1) := by decide +kernel
theorem dX9_findSlot_14 : decode cX9_findSlot 14 = .ok (.aaload, 1) := by decide +kernel
theorem dX9_findSlot_15 : decode cX9_findSlot 15 = .ok (.goto 4, 3) := by decide +kernel
theorem dX9_findSlot_18 : decode cX9_findSlot 18 = .ok (.aconst_null, 1) := by decide +kernel
theorem dX9_findSlot_19 : decode cX9_findSlot 19 = .ok (.areturn, 1) := by decide +kernel
theorem dX9_replaceByInterpolation_0 : decode cX9_replaceByInterpolation 0 = .ok (.aload_n 0, 1) := by decide +kernel
theorem dX9_replaceByInterpolation_1 : decode cX9_replaceByInterpolation 1 = .ok (.getfield 38, 3) := by decide +kernel
theorem dX9_replaceByInterpolation_4 : decode cX9_replaceByInterpolation 4 = .ok (.invokevirtual 318, 3) := by decide +kernel
theorem dX9_replaceByInterpolation_7 : decode cX9_replaceByInterpolation 7 = .ok (.aload_n 0, 1) := by decide +kernel
theorem dX9_replaceByInterpolation_8 : decode cX9_replaceByInterpolation 8 = .ok (.getfield 19, 3) := by decide +kernel
theorem dX9_replaceByInterpolation_11 : decode cX9_replaceByInterpolation 11 = .ok (.invokevirtual 96, 3) := by decide +kernel
theorem dX9_replaceByInterpolation_14 : decode cX9_replaceByInterpolation 14 = .ok (.iconst 0, 1) := by decide +kernel
theorem dX9_replaceByInterpolation_15 : decode cX9_replaceByInterpolation 15 = .ok (.istore_n 1, 1) := by decide +kernel
theorem dX9_replaceByInterpolation_16 : decode cX9_replaceByInterpolation 16 = .ok (.iload_n 1, 1) := by decide +kernel
theorem dX9_replaceByInterpolation_17 : decode cX9_replaceByInterpolation 17 = .ok (.aload_n 0, 1) := by decide +kernel
theorem dX9_replaceByInterpolation_18 : decode cX9_replaceByInterpolation 18 = .ok (.getfield 38, 3) := by decide +kernel
theorem dX9_replaceByInterpolation_21 : decode cX9_replaceByInterpolation 21 = .ok (.getfield 321, 3) := by decide +kernel
theorem dX9_replaceByInterpolation_24 : decode cX9_replaceByInterpolation 24 = .ok (.if_icmp .ge 35, 3) := by decide +kernel
theorem dX9_replaceByInterpolation_27 : decode cX9_replaceByInterpolation 27 = .ok (.aload_n 0, 1) := by decide +kernel
theorem dX9_replaceByInterpolation_28 : decode cX9_replaceByInterpolation 28 = .ok (.getfield 19, 3) := by decide +kernel
theorem dX9_replaceByInterpolation_31 : decode cX9_replaceByInterpolation 31 = .ok (.getfield 221, 3) := by decide +kernel
theorem dX9_replaceByInterpolation_34 : decode cX9_replaceByInterpolation 34 = .ok (.aload_n 0, 1) := by decide +kernel
theorem dX9_replaceByInterpolation_35 : decode cX9_replaceByInterpolation 35 = .ok (.getfield 38, 3) := by decide +kernel
theorem dX9_replaceByInterpolation_38 : decode cX9_replaceByInterpolation 38 = .ok (.getfield 322, 3) := by decide +kernel
theorem dX9_replaceByInterpolation_41 : decode cX9_replaceByInterpolation 41 = .ok (.iload_n 1, 1) := by decide +kernel
theorem dX9_replaceByInterpolation_42 : decode cX9_replaceByInterpolation 42 = .ok (.iaload, 1) := by decide +kernel
theorem dX9_replaceByInterpolation_43 : decode cX9_replaceByInterpolation 43 = .ok (.aload_n 0, 1) := by decide +kernel
theorem dX9_replaceByInterpolation_44 : decode cX9_replaceByInterpolation 44 = .ok (.getfield 38, 3) := by decide +kernel
theorem dX9_replaceByInterpolation_47 : decode cX9_replaceByInterpolation 47 = .ok (.getfield 323, 3) := by decide +kernel
theorem dX9_replaceByInterpolation_50 : decode cX9_replaceByInterpolation 50 = .ok (.iload_n 1, 1) := by decide +kernel
theorem dX9_replaceByInterpolation_51 : decode cX9_replaceByInterpolation 51 = .ok (.iaload, 1) := by decide +kernel
theorem dX9_replaceByInterpolation_52 : decode cX9_replaceByInterpolation 52 = .ok (.iastore, 1) := by decide +kernel
theorem dX9_replaceByInterpolation_53 : decode cX9_replaceByInterpolation 53 = .ok (.iinc 1 1, 3) := by decide +kernel
theorem dX9_replaceByInterpolation_56 : decode cX9_replaceByInterpolation 56 = .ok (.goto (-40), 3) := by decide +kernel
theorem dX9_replaceByInterpolation_59 : decode cX9_replaceByInterpolation 59 = .ok (.aload_n 0, 1) := by decide +kernel
theorem dX9_replaceByInterpolation_60 : decode cX9_replaceByInterpolation 60 = .ok (.getfield 19, 3) := by decide +kernel
theorem dX9_replaceByInterpolation_63 : decode cX9_replaceByInterpolation 63 = .ok (.invokevirtual 227, 3) := by decide +kernel
theorem dX9_replaceByInterpolation_66 : decode cX9_replaceByInterpolation 66 = .ok (.ireturn, 1) := by decide +kernel
theorem dX9_writeTerm_0 : decode cX9_writeTerm 0 = .ok (.aload_n 0, 1) := by decide +kernel
theorem dX9_writeTerm_1 : decode cX9_writeTerm 1 = .ok (.getfield 73, 3) := by decide +kernel
theorem dX9_writeTerm_4 : decode cX9_writeTerm 4 = .ok (.iload_n 2, 1) := by decide +kernel
theorem dX9_writeTerm_5 : decode cX9_writeTerm 5 = .ok (.invokevirtual 326, 3) := by decide +kernel
theorem dX9_writeTerm_8 : decode cX9_writeTerm 8 = .ok (.pop, 1) := by decide +kernel
theorem dX9_writeTerm_9 : decode cX9_writeTerm 9 = .ok (.iload_n 1, 1) := by decide +kernel
theorem dX9_writeTerm_10 : decode cX9_writeTerm 10 = .ok (.bipush 9, 2) := by decide +kernel
theorem dX9_writeTerm_12 : decode cX9_writeTerm 12 = .ok (.idiv, 1) := by decide +kernel
theorem dX9_writeTerm_13 : decode cX9_writeTerm 13 = .ok (.istore_n 3, 1) := by decide +kernel
theorem dX9_writeTerm_14 : decode cX9_writeTerm 14 = .ok (.iload_n 1, 1) := by decide +kernel
theorem dX9_writeTerm_15 : decode cX9_writeTerm 15 = .ok (.bipush 9, 2) := by decide +kernel
theorem dX9_writeTerm_17 : decode cX9_writeTerm 17 = .ok (.irem, 1) := by decide +kernel
theorem dX9_writeTerm_18 : decode cX9_writeTerm 18 = .ok (.istore 4, 2) := by decide +kernel
theorem dX9_writeTerm_20 : decode cX9_writeTerm 20 = .ok (.iload_n 3, 1) := by decide +kernel
theorem dX9_writeTerm_21 : decode cX9_writeTerm 21 = .ok (.ifCond .eq 17, 3) := by decide +kernel
theorem dX9_writeTerm_24 : decode cX9_writeTerm 24 = .ok (.aload_n 0, 1) := by decide +kernel
theorem dX9_writeTerm_25 : decode cX9_writeTerm 25 = .ok (.getfield 73, 3) := by decide +kernel
theorem dX9_writeTerm_28 : decode cX9_writeTerm 28 = .ok (.bipush 120, 2) := by decide +kernel
theorem dX9_writeTerm_30 : decode cX9_writeTerm 30 = .ok (.invokevirtual 284, 3) := by decide +kernel
theorem dX9_writeTerm_33 : decode cX9_writeTerm 33 = .ok (.iload_n 3, 1) := by decide +kernel
theorem dX9_writeTerm_34 : decode cX9_writeTerm 34 = .ok (.invokevirtual 326, 3) := by decide +kernel
theorem dX9_writeTerm_37 : decode cX9_writeTerm 37 = .ok (.pop, 1) := by decide +kernel
theorem dX9_writeTerm_38 : decode cX9_writeTerm 38 = .ok (.iload 4, 2) := by decide +kernel
theorem dX9_writeTerm_40 : decode cX9_writeTerm 40 = .ok (.ifCond .eq 18, 3) := by decide +kernel
theorem dX9_writeTerm_43 : decode cX9_writeTerm 43 = .ok (.aload_n 0, 1) := by decide +kernel
theorem dX9_writeTerm_44 : decode cX9_writeTerm 44 = .ok (.getfield 73, 3) := by decide +kernel
theorem dX9_writeTerm_47 : decode cX9_writeTerm 47 = .ok (.bipush 121, 2) := by decide +kernel
theorem dX9_writeTerm_49 : decode cX9_writeTerm 49 = .ok (.invokevirtual 284, 3) := by decide +kernel
theorem dX9_writeTerm_52 : decode cX9_writeTerm 52 = .ok (.iload 4, 2) := by decide +kernel
theorem dX9_writeTerm_54 : decode cX9_writeTerm 54 = .ok (.invokevirtual 326, 3) := by decide +kernel
theorem dX9_writeTerm_57 : decode cX9_writeTerm 57 = .ok (.pop, 1) := by decide +kernel
theorem dX9_writeTerm_58 : decode cX9_writeTerm 58 = .ok (.return_, 1) := by decide +kernel
theorem dX10_init_0 : decode cX10_init 0 = .ok (.aload_n 0, 1) := by decide +kernel
theorem dX10_init_1 : decode cX10_init 1 = .ok (.invokespecial 1, 3) := by decide +kernel
theorem dX10_init_4 : decode cX10_init 4 = .ok (.aload_n 0, 1) := by decide +kernel
theorem dX10_init_5 : decode cX10_init 5 = .ok (.bipush 7, 2) := by decide +kernel
theorem dX10_init_7 : decode cX10_init 7 = .ok (.putfield 7, 3) := by decide +kernel
theorem dX10_init_10 : decode cX10_init 10 = .ok (.aload_n 0, 1) := by decide +kernel
theorem dX10_init_11 : decode cX10_init 11 = .ok (.bipush 8, 2) := by decide +kernel
theorem dX10_init_13 : decode cX10_init 13 = .ok (.newarray .int, 2) := by decide +kernel
theorem dX10_init_15 : decode cX10_init 15 = .ok (.putfield 13, 3) := by decide +kernel
theorem dX10_init_18 : decode cX10_init 18 = .ok (.aload_n 0, 1) := by decide +kernel
theorem dX10_init_19 : decode cX10_init 19 = .ok (.bipush 8, 2) := by decide +kernel
theorem dX10_init_21 : decode cX10_init 21 = .ok (.newarray .int, 2) := by decide +kernel
theorem dX10_init_23 : decode cX10_init 23 = .ok (.putfield 17, 3) := by decide +kernel
theorem dX10_init_26 : decode cX10_init 26 = .ok (.aload_n 0, 1) := by decide +kernel
theorem dX10_init_27 : decode cX10_init 27 = .ok (.bipush 81, 2) := by decide +kernel
theorem dX10_init_29 : decode cX10_init 29 = .ok (.newarray .int, 2) := by decide +kernel
theorem dX10_init_31 : decode cX10_init 31 = .ok (.putfield 20, 3) := by decide +kernel
theorem dX10_init_34 : decode cX10_init 34 = .ok (.aload_n 0, 1) := by decide +kernel
theorem dX10_init_35 : decode cX10_init 35 = .ok (.bipush 81, 2) := by decide +kernel
theorem dX10_init_37 : decode cX10_init 37 = .ok (.newarray .int, 2) := by decide +kernel
theorem dX10_init_39 : decode cX10_init 39 = .ok (.putfield 23, 3) := by decide +kernel
theorem dX10_init_42 : decode cX10_init 42 = .ok (.aload_n 0, 1) := by decide +kernel
theorem dX10_init_43 : decode cX10_init 43 = .ok (.bipush 81, 2) := by decide +kernel
theorem dX10_init_45 : decode cX10_init 45 = .ok (.newarray .boolean, 2) := by decide +kernel
theorem dX10_init_47 : decode cX10_init 47 = .ok (.putfield 26, 3) := by decide +kernel
theorem dX10_init_50 : decode cX10_init 50 = .ok (.aload_n 0, 1) := by decide +kernel
theorem dX10_init_51 : decode cX10_init 51 = .ok (.bipush 8, 2) := by decide +kernel
theorem dX10_init_53 : decode cX10_init 53 = .ok (.newarray .int, 2) := by decide +kernel
theorem dX10_init_55 : decode cX10_init 55 = .ok (.putfield 30, 3) := by decide +kernel
theorem dX10_init_58 : decode cX10_init 58 = .ok (.aload_n 0, 1) := by decide +kernel
theorem dX10_init_59 : decode cX10_init 59 = .ok (.bipush 64, 2) := by decide +kernel
theorem dX10_init_61 : decode cX10_init 61 = .ok (.newarray .int, 2) := by decide +kernel
theorem dX10_init_63 : decode cX10_init 63 = .ok (.putfield 33, 3) := by decide +kernel
theorem dX10_init_66 : decode cX10_init 66 = .ok (.aload_n 0, 1) := by decide +kernel
theorem dX10_init_67 : decode cX10_init 67 = .ok (.bipush 64, 2) := by decide +kernel
theorem dX10_init_69 : decode cX10_init 69 = .ok (.newarray .int, 2) := by decide +kernel
theorem dX10_init_71 : decode cX10_init 71 = .ok (.putfield 36, 3) := by decide +kernel
theorem dX10_init_74 : decode cX10_init 74 = .ok (.aload_n 0, 1) := by decide +kernel
theorem dX10_init_75 : decode cX10_init 75 = .ok (.bipush 8, 2) := by decide +kernel
theorem dX10_init_77 : decode cX10_init 77 = .ok (.newarray .int, 2) := by decide +kernel
theorem dX10_init_79 : decode cX10_init 79 = .ok (.putfield 39, 3) := by decide +kernel
theorem dX10_init_82 : decode cX10_init 82 = .ok (.aload_n 0, 1) := by decide +kernel
theorem dX10_init_83 : decode cX10_init 83 = .ok (.bipush 8, 2) := by decide +kernel
theorem dX10_init_85 : decode cX10_init 85 = .ok (.newarray .int, 2) := by decide +kernel
theorem dX10_init_87 : decode cX10_init 87 = .ok (.putfield 42, 3) := by decide +kernel
theorem dX10_init_90 : decode cX10_init 90 = .ok (.aload_n 0, 1) := by decide +kernel
theorem dX10_init_91 : decode cX10_init 91 = .ok (.bipush 8, 2) := by decide +kernel
theorem dX10_init_93 : decode cX10_init 93 = .ok (.newarray .int, 2) := by decide +kernel
theorem dX10_init_95 : decode cX10_init 95 = .ok (.putfield 45, 3) := by decide +kernel
theorem dX10_init_98 : decode cX10_init 98 = .ok (.aload_n 0, 1) := by decide +kernel
theorem dX10_init_99 : decode cX10_init 99 = .ok (.bipush 9, 2) := by decide +kernel
theorem dX10_init_101 : decode cX10_init 101 = .ok (.newarray .int, 2) := by decide +kernel
theorem dX10_init_103 : decode cX10_init 103 = .ok (.putfield 48, 3) := by decide +kernel
theorem dX10_init_106 : decode cX10_init 106 = .ok (.aload_n 0, 1) := by decide +kernel
theorem dX10_init_107 : decode cX10_init 107 = .ok (.bipush 9, 2) := by decide +kernel
theorem dX10_init_109 : decode cX10_init 109 = .ok (.newarray .int, 2) := by decide +kernel
theorem dX10_init_111 : decode cX10_init 111 = .ok (.putfield 51, 3) := by decide +kernel
theorem dX10_init_114 : decode cX10_init 114 = .ok (.aload_n 0, 1) := by decide +kernel
theorem dX10_init_115 : decode cX10_init 115 = .ok (.sipush 729, 3) := by decide +kernel
theorem dX10_init_118 : decode cX10_init 118 = .ok (.newarray .int, 2) := by decide +kernel
theorem dX10_init_120 : decode cX10_init 120 = .ok (.putfield 54, 3) := by decide +kernel
theorem dX10_init_123 : decode cX10_init 123 = .ok (.aload_n 0, 1) := by decide +kernel
theorem dX10_init_124 : decode cX10_init 124 = .ok (.bipush 32, 2) := by decide +kernel
theorem dX10_init_126 : decode cX10_init 126 = .ok (.newarray .int, 2) := by decide +kernel
theorem dX10_init_128 : decode cX10_init 128 = .ok (.putfield 57, 3) := by decide +kernel
theorem dX10_init_131 : decode cX10_init 131 = .ok (.aload_n 0, 1) := by decide +kernel
theorem dX10_init_132 : decode cX10_init 132 = .ok (.bipush 32, 2) := by decide +kernel
theorem dX10_init_134 : decode cX10_init 134 = .ok (.newarray .int, 2) := by decide +kernel
theorem dX10_init_136 : decode cX10_init 136 = .ok (.putfield 60, 3) := by decide +kernel
theorem dX10_init_139 : decode cX10_init 139 = .ok (.aload_n 0, 1) := by decide +kernel
theorem dX10_init_140 : decode cX10_init 140 = .ok (.bipush 32, 2) := by decide +kernel
theorem dX10_init_142 : decode cX10_init 142 = .ok (.newarray .int, 2) := by decide +kernel
theorem dX10_init_144 : decode cX10_init 144 = .ok (.putfield 63, 3) := by decide +kernel
theorem dX10_init_147 : decode cX10_init 147 = .ok (.aload_n 0, 1) := by decide +kernel
theorem dX10_init_148 : decode cX10_init 148 = .ok (.sipush 288, 3) := by decide +kernel
theorem dX10_init_151 : decode cX10_init 151 = .ok (.newarray .int, 2) := by decide +kernel
theorem dX10_init_153 : decode cX10_init 153 = .ok (.putfield 66, 3) := by decide +kernel
theorem dX10_init_156 : decode cX10_init 156 = .ok (.aload_n 0, 1) := by decide +kernel
theorem dX10_init_157 : decode cX10_init 157 = .ok (.sipush 288, 3) := by decide +kernel
theorem dX10_init_160 : decode cX10_init 160 = .ok (.newarray .int, 2) := by decide +kernel
theorem dX10_init_162 : decode cX10_init 162 = .ok (.putfield 69, 3) := by decide +kernel
theorem dX10_init_165 : decode cX10_init 165 = .ok (.aload_n 0, 1) := by decide +kernel
theorem dX10_init_166 : decode cX10_init 166 = .ok (.sipush 23328, 3) := by decide +kernel
theorem dX10_init_169 : decode cX10_init 169 = .ok (.newarray .int, 2) := by decide +kernel
theorem dX10_init_171 : decode cX10_init 171 = .ok (.putfield 72, 3) := by decide +kernel
theorem dX10_init_174 : decode cX10_init 174 = .ok (.aload_n 0, 1) := by decide +kernel
theorem dX10_init_175 : decode cX10_init 175 = .ok (.bipush 8, 2) := by decide +kernel
theorem dX10_init_177 : decode cX10_init 177 = .ok (.newarray .int, 2) := by decide +kernel
theorem dX10_init_179 : decode cX10_init 179 = .ok (.putfield 75, 3) := by decide +kernel
theorem dX10_init_182 : decode cX10_init 182 = .ok (.aload_n 0, 1) := by decide +kernel
theorem dX10_init_183 : decode cX10_init 183 = .ok (.bipush 72, 2) := by decide +kernel
theorem dX10_init_185 : decode cX10_init 185 = .ok (.newarray .int, 2) := by decide +kernel
theorem dX10_init_187 : decode cX10_init 187 = .ok (.putfield 78, 3) := by decide +kernel
theorem dX10_init_190 : decode cX10_init 190 = .ok (.aload_n 0, 1) := by decide +kernel
theorem dX10_init_191 : decode cX10_init 191 = .ok (.bipush 8, 2) := by decide +kernel
theorem dX10_init_193 : decode cX10_init 193 = .ok (.newarray .int, 2) := by decide +kernel
theorem dX10_init_195 : decode cX10_init 195 = .ok (.putfield 81, 3) := by decide +kernel
theorem dX10_init_198 : decode cX10_init 198 = .ok (.aload_n 0, 1) := by decide +kernel
theorem dX10_init_199 : decode cX10_init 199 = .ok (.bipush 60, 2) := by decide +kernel
theorem dX10_init_201 : decode cX10_init 201 = .ok (.newarray .int, 2) := by decide +kernel
theorem dX10_init_203 : decode cX10_init 203 = .ok (.putfield 84, 3) := by decide +kernel
theorem dX10_init_206 : decode cX10_init 206 = .ok (.aload_n 0, 1) := by decide +kernel
theorem dX10_init_207 : decode cX10_init 207 = .ok (.bipush 120, 2) := by decide +kernel
theorem dX10_init_209 : decode cX10_init 209 = .ok (.newarray .int, 2) := by decide +kernel
theorem dX10_init_211 : decode cX10_init 211 = .ok (.putfield 87, 3) := by decide +kernel
theorem dX10_init_214 : decode cX10_init 214 = .ok (.aload_n 0, 1) := by decide +kernel
theorem dX10_init_215 : decode cX10_init 215 = .ok (.iconst 4, 1) := by decide +kernel
theorem dX10_init_216 : decode cX10_init 216 = .ok (.newarray .int, 2) := by decide +kernel
theorem dX10_init_218 : decode cX10_init 218 = .ok (.putfield 90, 3) := by decide +kernel
theorem dX10_init_221 : decode cX10_init 221 = .ok (.aload_n 0, 1) := by decide +kernel
theorem dX10_init_222 : decode cX10_init 222 = .ok (.iconst 4, 1) := by decide +kernel
theorem dX10_init_223 : decode cX10_init 223 = .ok (.newarray .int, 2) := by decide +kernel
theorem dX10_init_225 : decode cX10_init 225 = .ok (.putfield 93, 3) := by decide +kernel
theorem dX10_init_228 : decode cX10_init 228 = .ok (.aload_n 0, 1) := by decide +kernel
theorem dX10_init_229 : decode cX10_init 229 = .ok (.bipush 80, 2) := by decide +kernel
theorem dX10_init_231 : decode cX10_init 231 = .ok (.newarray .int, 2) := by decide +kernel
theorem dX10_init_233 : decode cX10_init 233 = .ok (.putfield 96, 3) := by decide +kernel
theorem dX10_init_236 : decode cX10_init 236 = .ok (.aload_n 0, 1) := by decide +kernel
theorem dX10_init_237 : decode cX10_init 237 = .ok (.sipush 324, 3) := by decide +kernel
theorem dX10_init_240 : decode cX10_init 240 = .ok (.newarray .int, 2) := by decide +kernel
theorem dX10_init_242 : decode cX10_init 242 = .ok (.putfield 99, 3) := by decide +kernel
theorem dX10_init_245 : decode cX10_init 245 = .ok (.aload_n 0, 1) := by decide +kernel
theorem dX10_init_246 : decode cX10_init 246 = .ok (.bipush 8, 2) := by decide +kernel
theorem dX10_init_248 : decode cX10_init 248 = .ok (.newarray .int, 2) := by decide +kernel
theorem dX10_init_250 : decode cX10_init 250 = .ok (.putfield 102, 3) := by decide +kernel
theorem dX10_init_253 : decode cX10_init 253 = .ok (.aload_n 0, 1) := by decide +kernel
theorem dX10_init_254 : decode cX10_init 254 = .ok (.bipush 8, 2) := by decide +kernel
theorem dX10_init_256 : decode cX10_init 256 = .ok (.newarray .int, 2) := by decide +kernel
theorem dX10_init_258 : decode cX10_init 258 = .ok (.putfield 105, 3) := by decide +kernel
theorem dX10_init_261 : decode cX10_init 261 = .ok (.aload_n 0, 1) := by decide +kernel
theorem dX10_init_262 : decode cX10_init 262 = .ok (.bipush 81, 2) := by decide +kernel
theorem dX10_init_264 : decode cX10_init 264 = .ok (.newarray .int, 2) := by decide +kernel
theorem dX10_init_266 : decode cX10_init 266 = .ok (.putfield 108, 3) := by decide +kernel
theorem dX10_init_269 : decode cX10_init 269 = .ok (.return_, 1) := by decide +kernel
theorem dX10_isIn_0 : decode cX10_isIn 0 = .ok (.iload_n 0, 1) := by decide +kernel
theorem dX10_isIn_1 : decode cX10_isIn 1 = .ok (.iload_n 1, 1) := by decide +kernel
theorem dX10_isIn_2 : decode cX10_isIn 2 = .ok (.if_icmp .lt 12, 3) := by decide +kernel
theorem dX10_isIn_5 : decode cX10_isIn 5 = .ok (.iload_n 0, 1) := by decide +kernel
theorem dX10_isIn_6 : decode cX10_isIn 6 = .ok (.iload_n 2, 1) := by decide +kernel
theorem dX10_isIn_7 : decode cX10_isIn 7 = .ok (.if_icmp .gt 7, 3) := by decide +kernel
theorem dX10_isIn_10 : decode cX10_isIn 10 = .ok (.iconst 1, 1) := by decide +kernel
theorem dX10_isIn_11 : decode cX10_isIn 11 = .ok (.goto 4, 3) := by decide +kernel
theorem dX10_isIn_14 : decode cX10_isIn 14 = .ok (.iconst 0, 1) := by decide +kernel
theorem dX10_isIn_15 : decode cX10_isIn 15 = .ok (.ireturn, 1) := by decide +kernel
theorem dX10_isPoint_0 : decode cX10_isPoint 0 = .ok (.iload_n 1, 1) := by decide +kernel
theorem dX10_isPoint_1 : decode cX10_isPoint 1 = .ok (.iconst 0, 1) := by decide +kernel
theorem dX10_isPoint_2 : decode cX10_isPoint 2 = .ok (.aload_n 0, 1) := by decide +kernel
theorem dX10_isPoint_3 : decode cX10_isPoint 3 = .ok (.getfield 111, 3) := by decide +kernel
theorem dX10_isPoint_6 : decode cX10_isPoint 6 = .ok (.iconst 1, 1) := by decide +kernel
theorem dX10_isPoint_7 : decode cX10_isPoint 7 = .ok (.isub, 1) := by decide +kernel
theorem dX10_isPoint_8 : decode cX10_isPoint 8 = .ok (.invokestatic 114, 3) := by decide +kernel
theorem dX10_isPoint_11 : decode cX10_isPoint 11 = .ok (.ireturn, 1) := by decide +kernel
theorem dX10_isExponent_0 : decode cX10_isExponent 0 = .ok (.iload_n 0, 1) := by decide +kernel
theorem dX10_isExponent_1 : decode cX10_isExponent 1 = .ok (.iconst 0, 1) := by decide +kernel
theorem dX10_isExponent_2 : decode cX10_isExponent 2 = .ok (.bipush 8, 2) := by decide +kernel
theorem dX10_isExponent_4 : decode cX10_isExponent 4 = .ok (.invokestatic 114, 3) := by decide +kernel
theorem dX10_isExponent_7 : decode cX10_isExponent 7 = .ok (.ireturn, 1) := by decide +kernel
theorem dX10_power_0 : decode cX10_power 0 = .ok (.iconst 1, 1) := by decide +kernel
theorem dX10_power_1 : decode cX10_power 1 = .ok (.aload_n 0, 1) := by decide +kernel
theorem dX10_power_2 : decode cX10_power 2 = .ok (.getfield 7, 3) := by decide +kernel
theorem dX10_power_5 : decode cX10_power 5 = .ok (.irem, 1) := by decide +kernel
theorem dX10_power_6 : decode cX10_power 6 = .ok (.istore_n 3, 1) := by decide +kernel
theorem dX10_power_7 : decode cX10_power 7 = .ok (.iconst 0, 1) := by decide +kernel
theorem dX10_power_8 : decode cX10_power 8 = .ok (.istore 4, 2) := by decide +kernel
theorem dX10_power_10 : decode cX10_power 10 = .ok (.iload 4, 2) := by decide +kernel
theorem dX10_power_12 : decode cX10_power 12 = .ok (.iload_n 2, 1) := by decide +kernel
theorem dX10_power_13 : decode cX10_power 13 = .ok (.if_icmp .ge 18, 3) := by decide +kernel
theorem dX10_power_16 : decode cX10_power 16 = .ok (.iload_n 3, 1) := by decide +kernel
theorem dX10_power_17 : decode cX10_power 17 = .ok (.iload_n 1, 1) := by decide +kernel
theorem dX10_power_18 : decode cX10_power 18 = .ok (.imul, 1) := by decide +kernel
theorem dX10_power_19 : decode cX10_power 19 = .ok (.aload_n 0, 1) := by decide +kernel
theorem dX10_power_20 : decode cX10_power 20 = .ok (.getfield 7, 3) := by decide +kernel
theorem dX10_power_23 : decode cX10_power 23 = .ok (.irem, 1) := by decide +kernel
theorem dX10_power_24 : decode cX10_power 24 = .ok (.istore_n 3, 1) := by decide +kernel
theorem dX10_power_25 : decode cX10_power 25 = .ok (.iinc 4 1, 3) := by decide +kernel
theorem dX10_power_28 : decode cX10_power 28 = .ok (.goto (-18), 3) := by decide +kernel
theorem dX10_power_31 : decode cX10_power 31 = .ok (.iload_n 3, 1) := by decide +kernel
theorem dX10_power_32 : decode cX10_power 32 = .ok (.ireturn, 1) := by decide +kernel
theorem dX10_inverse_0 : decode cX10_inverse 0 = .ok (.iconst 1, 1) := by decide +kernel
theorem dX10_inverse_1 : decode cX10_inverse 1 = .ok (.istore_n 2, 1) := by decide +kernel
theorem dX10_inverse_2 : decode cX10_inverse 2 = .ok (.iload_n 2, 1) := by decide +kernel
theorem dX10_inverse_3 : decode cX10_inverse 3 = .ok (.iload_n 1, 1) := by decide +kernel
theorem dX10_inverse_4 : decode cX10_inverse 4 = .ok (.imul, 1) := by decide +kernel
theorem dX10_inverse_5 : decode cX10_inverse 5 = .ok (.aload_n 0, 1) := by decide +kernel
theorem dX10_inverse_6 : decode cX10_inverse 6 = .ok (.getfield 7, 3) := by decide +kernel
theorem dX10_inverse_9 : decode cX10_inverse 9 = .ok (.irem, 1) := by decide +kernel
theorem dX10_inverse_10 : decode cX10_inverse 10 = .ok (.iconst 1, 1) := by decide +kernel
theorem dX10_inverse_11 : decode cX10_inverse 11 = .ok (.if_icmp .eq 9, 3) := by decide +kernel
theorem dX10_inverse_14 : decode cX10_inverse 14 = .ok (.iinc 2 1, 3) := by decide +kernel
theorem dX10_inverse_17 : decode cX10_inverse 17 = .ok (.goto (-15), 3) := by decide +kernel
theorem dX10_inverse_20 : decode cX10_inverse 20 = .ok (.iload_n 2, 1) := by decide +kernel
theorem dX10_inverse_21 : decode cX10_inverse 21 = .ok (.ireturn, 1) := by decide +kernel
theorem dX10_isPrime_0 : decode cX10_isPrime 0 = .ok (.iload_n 0, 1) := by decide +kernel
theorem dX10_isPrime_1 : decode cX10_isPrime 1 = .ok (.iconst 1, 1) := by decide +kernel
theorem dX10_isPrime_2 : decode cX10_isPrime 2 = .ok (.if_icmp .le 7, 3) := by decide +kernel
theorem dX10_isPrime_5 : decode cX10_isPrime 5 = .ok (.iconst 1, 1) := by decide +kernel
theorem dX10_isPrime_6 : decode cX10_isPrime 6 = .ok (.goto 4, 3) := by decide +kernel
theorem dX10_isPrime_9 : decode cX10_isPrime 9 = .ok (.iconst 0, 1) := by decide +kernel
theorem dX10_isPrime_10 : decode cX10_isPrime 10 = .ok (.istore_n 1, 1) := by decide +kernel
theorem dX10_isPrime_11 : decode cX10_isPrime 11 = .ok (.iconst 2, 1) := by decide +kernel
theorem dX10_isPrime_12 : decode cX10_isPrime 12 = .ok (.istore_n 2, 1) := by decide +kernel
theorem dX10_isPrime_13 : decode cX10_isPrime 13 = .ok (.iload_n 2, 1) := by decide +kernel
theorem dX10_isPrime_14 : decode cX10_isPrime 14 = .ok (.iload_n 0, 1) := by decide +kernel
theorem dX10_isPrime_15 : decode cX10_isPrime 15 = .ok (.if_icmp .ge 25, 3) := by decide +kernel
theorem dX10_isPrime_18 : decode cX10_isPrime 18 = .ok (.iload_n 1, 1) := by decide +kernel
theorem dX10_isPrime_19 : decode cX10_isPrime 19 = .ok (.ifCond .eq 13, 3) := by decide +kernel
theorem dX10_isPrime_22 : decode cX10_isPrime 22 = .ok (.iload_n 0, 1) := by decide +kernel
theorem dX10_isPrime_23 : decode cX10_isPrime 23 = .ok (.iload_n 2, 1) := by decide +kernel
theorem dX10_isPrime_24 : decode cX10_isPrime 24 = .ok (.irem, 1) := by decide +kernel
theorem dX10_isPrime_25 : decode cX10_isPrime 25 = .ok (.ifCond .eq 7, 3) := by decide +kernel
theorem dX10_isPrime_28 : decode cX10_isPrime 28 = .ok (.iconst 1, 1) := by decide +kernel
theorem dX10_isPrime_29 : decode cX10_isPrime 29 = .ok (.goto 4, 3) := by decide +kernel
theorem dX10_isPrime_32 : decode cX10_isPrime 32 = .ok (.iconst 0, 1) := by decide +kernel
theorem dX10_isPrime_33 : decode cX10_isPrime 33 = .ok (.istore_n 1, 1) := by decide +kernel
theorem dX10_isPrime_34 : decode cX10_isPrime 34 = .ok (.iinc 2 1, 3) := by decide +kernel
theorem dX10_isPrime_37 : decode cX10_isPrime 37 = .ok (.goto (-24), 3) := by decide +kernel
theorem dX10_isPrime_40 : decode cX10_isPrime 40 = .ok (.iload_n 1, 1) := by decide +kernel
theorem dX10_isPrime_41 : decode cX10_isPrime 41 = .ok (.ireturn, 1) := by decide +kernel
theorem dX10_clearCurrent_0 : decode cX10_clearCurrent 0 = .ok (.iconst 0, 1) := by decide +kernel
theorem dX10_clearCurrent_1 : decode cX10_clearCurrent 1 = .ok (.istore_n 1, 1) := by decide +kernel
theorem dX10_clearCurrent_2 : decode cX10_clearCurrent 2 = .ok (.iload_n 1, 1) := by decide +kernel
theorem dX10_clearCurrent_3 : decode cX10_clearCurrent 3 = .ok (.bipush 81, 2) := by decide +kernel
theorem dX10_clearCurrent_5 : decode cX10_clearCurrent 5 = .ok (.if_icmp .ge 16, 3) := by decide +kernel
theorem dX10_clearCurrent_8 : decode cX10_clearCurrent 8 = .ok (.aload_n 0, 1) := by decide +kernel
theorem dX10_clearCurrent_9 : decode cX10_clearCurrent 9 = .ok (.getfield 20, 3) := by decide +kernel
theorem dX10_clearCurrent_12 : decode cX10_clearCurrent 12 = .ok (.iload_n 1, 1) := by decide +kernel
theorem dX10_clearCurrent_13 : decode cX10_clearCurrent 13 = .ok (.iconst 0, 1) := by decide +kernel
theorem dX10_clearCurrent_14 : decode cX10_clearCurrent 14 = .ok (.iastore, 1) := by decide +kernel
theorem dX10_clearCurrent_15 : decode cX10_clearCurrent 15 = .ok (.iinc 1 1, 3) := by decide +kernel
theorem dX10_clearCurrent_18 : decode cX10_clearCurrent 18 = .ok (.goto (-16), 3) := by decide +kernel
theorem dX10_clearCurrent_21 : decode cX10_clearCurrent 21 = .ok (.return_, 1) := by decide +kernel
theorem dX10_setPrime_0 : decode cX10_setPrime 0 = .ok (.iload_n 1, 1) := by decide +kernel
theorem dX10_setPrime_1 : decode cX10_setPrime 1 = .ok (.iconst 2, 1) := by decide +kernel
theorem dX10_setPrime_2 : decode cX10_setPrime 2 = .ok (.bipush 31, 2) := by decide +kernel
theorem dX10_setPrime_4 : decode cX10_setPrime 4 = .ok (.invokestatic 114, 3) := by decide +kernel
theorem dX10_setPrime_7 : decode cX10_setPrime 7 = .ok (.ifCond .eq 10, 3) := by decide +kernel
theorem dX10_setPrime_10 : decode cX10_setPrime 10 = .ok (.iload_n 1, 1) := by decide +kernel
theorem dX10_setPrime_11 : decode cX10_setPrime 11 = .ok (.invokestatic 118, 3) := by decide +kernel
theorem dX10_setPrime_14 : decode cX10_setPrime 14 = .ok (.ifCond .ne 6, 3) := by decide +kernel
theorem dX10_setPrime_17 : decode cX10_setPrime 17 = .ok (.bipush (-2), 2) := by decide +kernel
theorem dX10_setPrime_19 : decode cX10_setPrime 19 = .ok (.ireturn, 1) := by decide +kernel
theorem dX10_setPrime_20 : decode cX10_setPrime 20 = .ok (.aload_n 0, 1) := by decide +kernel
theorem dX10_setPrime_21 : decode cX10_setPrime 21 = .ok (.getfield 7, 3) := by decide +kernel
theorem dX10_setPrime_24 : decode cX10_setPrime 24 = .ok (.istore_n 2, 1) := by decide +kernel
theorem dX10_setPrime_25 : decode cX10_setPrime 25 = .ok (.aload_n 0, 1) := by decide +kernel
theorem dX10_setPrime_26 : decode cX10_setPrime 26 = .ok (.iload_n 1, 1) := by decide +kernel
theorem dX10_setPrime_27 : decode cX10_setPrime 27 = .ok (.putfield 7, 3) := by decide +kernel
theorem dX10_setPrime_30 : decode cX10_setPrime 30 = .ok (.aload_n 0, 1) := by decide +kernel
theorem dX10_setPrime_31 : decode cX10_setPrime 31 = .ok (.iconst 0, 1) := by decide +kernel
theorem dX10_setPrime_32 : decode cX10_setPrime 32 = .ok (.putfield 111, 3) := by decide +kernel
theorem dX10_setPrime_35 : decode cX10_setPrime 35 = .ok (.aload_n 0, 1) := by decide +kernel
theorem dX10_setPrime_36 : decode cX10_setPrime 36 = .ok (.iconst 0, 1) := by decide +kernel
theorem dX10_setPrime_37 : decode cX10_setPrime 37 = .ok (.putfield 122, 3) := by decide +kernel
theorem dX10_setPrime_40 : decode cX10_setPrime 40 = .ok (.aload_n 0, 1) := by decide +kernel
theorem dX10_setPrime_41 : decode cX10_setPrime 41 = .ok (.invokevirtual 126, 3) := by decide +kernel
theorem dX10_setPrime_44 : decode cX10_setPrime 44 = .ok (.iload_n 2, 1) := by decide +kernel
theorem dX10_setPrime_45 : decode cX10_setPrime 45 = .ok (.ireturn, 1) := by decide +kernel
theorem dX10_prime_0 : decode cX10_prime 0 = .ok (.aload_n 0, 1) := by decide +kernel
theorem dX10_prime_1 : decode cX10_prime 1 = .ok (.getfield 7, 3) := by decide +kernel
theorem dX10_prime_4 : decode cX10_prime 4 = .ok (.ireturn, 1) := by decide +kernel
theorem dX10_addPoint_0 : decode cX10_addPoint 0 = .ok (.iload_n 1, 1) := by decide +kernel
theorem dX10_addPoint_1 : decode cX10_addPoint 1 = .ok (.iconst 0, 1) := by decide +kernel
theorem dX10_addPoint_2 : decode cX10_addPoint 2 = .ok (.aload_n 0, 1) := by decide +kernel
theorem dX10_addPoint_3 : decode cX10_addPoint 3 = .ok (.getfield 7, 3) := by decide +kernel
theorem dX10_addPoint_6 : decode cX10_addPoint 6 = .ok (.iconst 1, 1) := by decide +kernel
theorem dX10_addPoint_7 : decode cX10_addPoint 7 = .ok (.isub, 1) := by decide +kernel
theorem dX10_addPoint_8 : decode cX10_addPoint 8 = .ok (.invokestatic 114, 3) := by decide +kernel
theorem dX10_addPoint_11 : decode cX10_addPoint 11 = .ok (.ifCond .eq 17, 3) := by decide +kernel
theorem dX10_addPoint_14 : decode cX10_addPoint 14 = .ok (.iload_n 2, 1) := by decide +kernel
theorem dX10_addPoint_15 : decode cX10_addPoint 15 = .ok (.iconst 0, 1) := by decide +kernel
theorem dX10_addPoint_16 : decode cX10_addPoint 16 = .ok (.aload_n 0, 1) := by decide +kernel
theorem dX10_addPoint_17 : decode cX10_addPoint 17 = .ok (.getfield 7, 3) := by decide +kernel
theorem dX10_addPoint_20 : decode cX10_addPoint 20 = .ok (.iconst 1, 1) := by decide +kernel
theorem dX10_addPoint_21 : decode cX10_addPoint 21 = .ok (.isub, 1) := by decide +kernel
theorem dX10_addPoint_22 : decode cX10_addPoint 22 = .ok (.invokestatic 114, 3) := by decide +kernel
theorem dX10_addPoint_25 : decode cX10_addPoint 25 = .ok (.ifCond .ne 6, 3) := by decide +kernel
theorem dX10_addPoint_28 : decode cX10_addPoint 28 = .ok (.bipush (-2), 2) := by decide +kernel
theorem dX10_addPoint_30 : decode cX10_addPoint 30 = .ok (.ireturn, 1) := by decide +kernel
theorem dX10_addPoint_31 : decode cX10_addPoint 31 = .ok (.iconst 0, 1) := by decide +kernel
theorem dX10_addPoint_32 : decode cX10_addPoint 32 = .ok (.istore_n 3, 1) := by decide +kernel
theorem dX10_addPoint_33 : decode cX10_addPoint 33 = .ok (.iload_n 3, 1) := by decide +kernel
theorem dX10_addPoint_34 : decode cX10_addPoint 34 = .ok (.aload_n 0, 1) := by decide +kernel
theorem dX10_addPoint_35 : decode cX10_addPoint 35 = .ok (.getfield 111, 3) := by decide +kernel
theorem dX10_addPoint_38 : decode cX10_addPoint 38 = .ok (.if_icmp .ge 32, 3) := by decide +kernel
theorem dX10_addPoint_41 : decode cX10_addPoint 41 = .ok (.aload_n 0, 1) := by decide +kernel
theorem dX10_addPoint_42 : decode cX10_addPoint 42 = .ok (.getfield 13, 3) := by decide +kernel
theorem dX10_addPoint_45 : decode cX10_addPoint 45 = .ok (.iload_n 3, 1) := by decide +kernel
theorem dX10_addPoint_46 : decode cX10_addPoint 46 = .ok (.iaload, 1) := by decide +kernel
theorem dX10_addPoint_47 : decode cX10_addPoint 47 = .ok (.iload_n 1, 1) := by decide +kernel
theorem dX10_addPoint_48 : decode cX10_addPoint 48 = .ok (.if_icmp .ne 16, 3) := by decide +kernel
theorem dX10_addPoint_51 : decode cX10_addPoint 51 = .ok (.aload_n 0, 1) := by decide +kernel
theorem dX10_addPoint_52 : decode cX10_addPoint 52 = .ok (.getfield 17, 3) := by decide +kernel
theorem dX10_addPoint_55 : decode cX10_addPoint 55 = .ok (.iload_n 3, 1) := by decide +kernel
theorem dX10_addPoint_56 : decode cX10_addPoint 56 = .ok (.iaload, 1) := by decide +kernel
theorem dX10_addPoint_57 : decode cX10_addPoint 57 = .ok (.iload_n 2, 1) := by decide +kernel
theorem dX10_addPoint_58 : decode cX10_addPoint 58 = .ok (.if_icmp .ne 6, 3) := by decide +kernel
theorem dX10_addPoint_61 : decode cX10_addPoint 61 = .ok (.bipush (-3), 2) := by decide +kernel
theorem dX10_addPoint_63 : decode cX10_addPoint 63 = .ok (.ireturn, 1) := by decide +kernel
theorem dX10_addPoint_64 : decode cX10_addPoint 64 = .ok (.iinc 3 1, 3) := by decide +kernel
theorem dX10_addPoint_67 : decode cX10_addPoint 67 = .ok (.goto (-34), 3) := by decide +kernel
theorem dX10_addPoint_70 : decode cX10_addPoint 70 = .ok (.aload_n 0, 1) := by decide +kernel
theorem dX10_addPoint_71 : decode cX10_addPoint 71 = .ok (.getfield 111, 3) := by decide +kernel
theorem dX10_addPoint_74 : decode cX10_addPoint 74 = .ok (.bipush 8, 2) := by decide +kernel
theorem dX10_addPoint_76 : decode cX10_addPoint 76 = .ok (.if_icmp .ne 6, 3) := by decide +kernel
theorem dX10_addPoint_79 : decode cX10_addPoint 79 = .ok (.bipush (-4), 2) := by decide +kernel
theorem dX10_addPoint_81 : decode cX10_addPoint 81 = .ok (.ireturn, 1) := by decide +kernel
theorem dX10_addPoint_82 : decode cX10_addPoint 82 = .ok (.aload_n 0, 1) := by decide +kernel
theorem dX10_addPoint_83 : decode cX10_addPoint 83 = .ok (.getfield 13, 3) := by decide +kernel
theorem dX10_addPoint_86 : decode cX10_addPoint 86 = .ok (.aload_n 0, 1) := by decide +kernel
theorem dX10_addPoint_87 : decode cX10_addPoint 87 = .ok (.getfield 111, 3) := by decide +kernel
theorem dX10_addPoint_90 : decode cX10_addPoint 90 = .ok (.iload_n 1, 1) := by decide +kernel
theorem dX10_addPoint_91 : decode cX10_addPoint 91 = .ok (.iastore, 1) := by decide +kernel
theorem dX10_addPoint_92 : decode cX10_addPoint 92 = .ok (.aload_n 0, 1) := by decide +kernel
theorem dX10_addPoint_93 : decode cX10_addPoint 93 = .ok (.getfield 17, 3) := by decide +kernel
theorem dX10_addPoint_96 : decode cX10_addPoint 96 = .ok (.aload_n 0, 1) := by decide +kernel
theorem dX10_addPoint_97 : decode cX10_addPoint 97 = .ok (.getfield 111, 3) := by decide +kernel
theorem dX10_addPoint_100 : decode cX10_addPoint 100 = .ok (.iload_n 2, 1) := by decide +kernel
theorem dX10_addPoint_101 : decode cX10_addPoint 101 = .ok (.iastore, 1) := by decide +kernel
theorem dX10_addPoint_102 : decode cX10_addPoint 102 = .ok (.aload_n 0, 1) := by decide +kernel
theorem dX10_addPoint_103 : decode cX10_addPoint 103 = .ok (.dup, 1) := by decide +kernel
theorem dX10_addPoint_104 : decode cX10_addPoint 104 = .ok (.getfield 111, 3) := by decide +kernel
theorem dX10_addPoint_107 : decode cX10_addPoint 107 = .ok (.iconst 1, 1) := by decide +kernel
theorem dX10_addPoint_108 : decode cX10_addPoint 108 = .ok (.iadd, 1) := by decide +kernel
theorem dX10_addPoint_109 : decode cX10_addPoint 109 = .ok (.putfield 111, 3) := by decide +kernel
theorem dX10_addPoint_112 : decode cX10_addPoint 112 = .ok (.aload_n 0, 1) := by decide +kernel
theorem dX10_addPoint_113 : decode cX10_addPoint 113 = .ok (.iconst 0, 1) := by decide +kernel
theorem dX10_addPoint_114 : decode cX10_addPoint 114 = .ok (.putfield 122, 3) := by decide +kernel
theorem dX10_addPoint_117 : decode cX10_addPoint 117 = .ok (.aload_n 0, 1) := by decide +kernel
theorem dX10_addPoint_118 : decode cX10_addPoint 118 = .ok (.getfield 111, 3) := by decide +kernel
theorem dX10_addPoint_121 : decode cX10_addPoint 121 = .ok (.ireturn, 1) := by decide +kernel
theorem dX10_removePoint_0 : decode cX10_removePoint 0 = .ok (.aload_n 0, 1) := by decide +kernel
theorem dX10_removePoint_1 : decode cX10_removePoint 1 = .ok (.iload_n 1, 1) := by decide +kernel
theorem dX10_removePoint_2 : decode cX10_removePoint 2 = .ok (.invokevirtual 129, 3) := by decide +kernel
theorem dX10_removePoint_5 : decode cX10_removePoint 5 = .ok (.ifCond .ne 5, 3) := by decide +kernel
theorem dX10_removePoint_8 : decode cX10_removePoint 8 = .ok (.iconst (-1), 1) := by decide +kernel
theorem dX10_removePoint_9 : decode cX10_removePoint 9 = .ok (.ireturn, 1) := by decide +kernel
theorem dX10_removePoint_10 : decode cX10_removePoint 10 = .ok (.iload_n 1, 1) := by decide +kernel
theorem dX10_removePoint_11 : decode cX10_removePoint 11 = .ok (.istore_n 2, 1) := by decide +kernel
theorem dX10_removePoint_12 : decode cX10_removePoint 12 = .ok (.iload_n 2, 1) := by decide +kernel
theorem dX10_removePoint_13 : decode cX10_removePoint 13 = .ok (.aload_n 0, 1) := by decide +kernel
theorem dX10_removePoint_14 : decode cX10_removePoint 14 = .ok (.getfield 111, 3) := by decide +kernel
theorem dX10_removePoint_17 : decode cX10_removePoint 17 = .ok (.iconst 1, 1) := by decide +kernel
theorem dX10_removePoint_18 : decode cX10_removePoint 18 = .ok (.isub, 1) := by decide +kernel
theorem dX10_removePoint_19 : decode cX10_removePoint 19 = .ok (.if_icmp .ge 37, 3) := by decide +kernel
theorem dX10_removePoint_22 : decode cX10_removePoint 22 = .ok (.aload_n 0, 1) := by decide +kernel
theorem dX10_removePoint_23 : decode cX10_removePoint 23 = .ok (.getfield 13, 3) := by decide +kernel
theorem dX10_removePoint_26 : decode cX10_removePoint 26 = .ok (.iload_n 2, 1) := by decide +kernel
theorem dX10_removePoint_27 : decode cX10_removePoint 27 = .ok (.aload_n 0, 1) := by decide +kernel
theorem dX10_removePoint_28 : decode cX10_removePoint 28 = .ok (.getfield 13, 3) := by decide +kernel
theorem dX10_removePoint_31 : decode cX10_removePoint 31 = .ok (.iload_n 2, 1) := by decide +kernel
theorem dX10_removePoint_32 : decode cX10_removePoint 32 = .ok (.iconst 1, 1) := by decide +kernel
theorem dX10_removePoint_33 : decode cX10_removePoint 33 = .ok (.iadd, 1) := by decide +kernel
theorem dX10_removePoint_34 : decode cX10_removePoint 34 = .ok (.iaload, 1) := by decide +kernel
theorem dX10_removePoint_35 : decode cX10_removePoint 35 = .ok (.iastore, 1) := by decide +kernel
theorem dX10_removePoint_36 : decode cX10_removePoint 36 = .ok (.aload_n 0, 1) := by decide +kernel
theorem dX10_removePoint_37 : decode cX10_removePoint 37 = .ok (.getfield 17, 3) := by decide +kernel
theorem dX10_removePoint_40 : decode cX10_removePoint 40 = .ok (.iload_n 2, 1) := by decide +kernel
theorem dX10_removePoint_41 : decode cX10_removePoint 41 = .ok (.aload_n 0, 1) := by decide +kernel
theorem dX10_removePoint_42 : decode cX10_removePoint 42 = .ok (.getfield 17, 3) := by decide +kernel
theorem dX10_removePoint_45 : decode cX10_removePoint 45 = .ok (.iload_n 2, 1) := by decide +kernel
theorem dX10_removePoint_46 : decode cX10_removePoint 46 = .ok (.iconst 1, 1) := by decide +kernel
theorem dX10_removePoint_47 : decode cX10_removePoint 47 = .ok (.iadd, 1) := by decide +kernel
theorem dX10_removePoint_48 : decode cX10_removePoint 48 = .ok (.iaload, 1) := by decide +kernel
theorem dX10_removePoint_49 : decode cX10_removePoint 49 = .ok (.iastore, 1) := by decide +kernel
theorem dX10_removePoint_50 : decode cX10_removePoint 50 = .ok (.iinc 2 1, 3) := by decide +kernel
theorem dX10_removePoint_53 : decode cX10_removePoint 53 = .ok (.goto (-41), 3) := by decide +kernel
theorem dX10_removePoint_56 : decode cX10_removePoint 56 = .ok (.aload_n 0, 1) := by decide +kernel
theorem dX10_removePoint_57 : decode cX10_removePoint 57 = .ok (.dup, 1) := by decide +kernel
theorem dX10_removePoint_58 : decode cX10_removePoint 58 = .ok (.getfield 111, 3) := by decide +kernel
theorem dX10_removePoint_61 : decode cX10_removePoint 61 = .ok (.iconst 1, 1) := by decide +kernel
theorem dX10_removePoint_62 : decode cX10_removePoint 62 = .ok (.isub, 1) := by decide +kernel
theorem dX10_removePoint_63 : decode cX10_removePoint 63 = .ok (.putfield 111, 3) := by decide +kernel
theorem dX10_removePoint_66 : decode cX10_removePoint 66 = .ok (.aload_n 0, 1) := by decide +kernel
theorem dX10_removePoint_67 : decode cX10_removePoint 67 = .ok (.iconst 0, 1) := by decide +kernel
theorem dX10_removePoint_68 : decode cX10_removePoint 68 = .ok (.putfield 122, 3) := by decide +kernel
theorem dX10_removePoint_71 : decode cX10_removePoint 71 = .ok (.aload_n 0, 1) := by decide +kernel
theorem dX10_removePoint_72 : decode cX10_removePoint 72 = .ok (.getfield 111, 3) := by decide +kernel
theorem dX10_removePoint_75 : decode cX10_removePoint 75 = .ok (.ireturn, 1) := by decide +kernel
theorem dX10_pointCount_0 : decode cX10_pointCount 0 = .ok (.aload_n 0, 1) := by decide +kernel
theorem dX10_pointCount_1 : decode cX10_pointCount 1 = .ok (.getfield 111, 3) := by decide +kernel
theorem dX10_pointCount_4 : decode cX10_pointCount 4 = .ok (.ireturn, 1) := by decide +kernel
theorem dX10_pointX_0 : decode cX10_pointX 0 = .ok (.aload_n 0, 1) := by decide +kernel
theorem dX10_pointX_1 : decode cX10_pointX 1 = .ok (.iload_n 1, 1) := by decide +kernel
theorem dX10_pointX_2 : decode cX10_pointX 2 = .ok (.invokevirtual 129, 3) := by decide +kernel
theorem dX10_pointX_5 : decode cX10_pointX 5 = .ok (.ifCond .eq 12, 3) := by decide +kernel
theorem dX10_pointX_8 : decode cX10_pointX 8 = .ok (.aload_n 0, 1) := by decide +kernel
theorem dX10_pointX_9 : decode cX10_pointX 9 = .ok (.getfield 13, 3) := by decide +kernel
theorem dX10_pointX_12 : decode cX10_pointX 12 = .ok (.iload_n 1, 1) := by decide +kernel
theorem dX10_pointX_13 : decode cX10_pointX 13 = .ok (.iaload, 1) := by decide +kernel
theorem dX10_pointX_14 : decode cX10_pointX 14 = .ok (.goto 4, 3) := by decide +kernel
theorem dX10_pointX_17 : decode cX10_pointX 17 = .ok (.iconst (-1), 1) := by decide +kernel
theorem dX10_pointX_18 : decode cX10_pointX 18 = .ok (.ireturn, 1) := by decide +kernel
theorem dX10_pointY_0 : decode cX10_pointY 0 = .ok (.aload_n 0, 1) := by decide +kernel
theorem dX10_pointY_1 : decode cX10_pointY 1 = .ok (.iload_n 1, 1) := by decide +kernel
theorem dX10_pointY_2 : decode cX10_pointY 2 = .ok (.invokevirtual 129, 3) := by decide +kernel
theorem dX10_pointY_5 : decode cX10_pointY 5 = .ok (.ifCond .eq 12, 3) := by decide +kernel
theorem dX10_pointY_8 : decode cX10_pointY 8 = .ok (.aload_n 0, 1) := by decide +kernel
theorem dX10_pointY_9 : decode cX10_pointY 9 = .ok (.getfield 17, 3) := by decide +kernel
theorem dX10_pointY_12 : decode cX10_pointY 12 = .ok (.iload_n 1, 1) := by decide +kernel
theorem dX10_pointY_13 : decode cX10_pointY 13 = .ok (.iaload, 1) := by decide +kernel
theorem dX10_pointY_14 : decode cX10_pointY 14 = .ok (.goto 4, 3) := by decide +kernel
theorem dX10_pointY_17 : decode cX10_pointY 17 = .ok (.iconst (-1), 1) := by decide +kernel
theorem dX10_pointY_18 : decode cX10_pointY 18 = .ok (.ireturn, 1) := by decide +kernel
theorem dX10_swapCoordinates_0 : decode cX10_swapCoordinates 0 = .ok (.iconst 1, 1) := by decide +kernel
theorem dX10_swapCoordinates_1 : decode cX10_swapCoordinates 1 = .ok (.istore_n 1, 1) := by decide +kernel
theorem dX10_swapCoordinates_2 : decode cX10_swapCoordinates 2 = .ok (.iconst 0, 1) := by decide +kernel
theorem dX10_swapCoordinates_3 : decode cX10_swapCoordinates 3 = .ok (.istore_n 2, 1) := by decide +kernel
theorem dX10_swapCoordinates_4 : decode cX10_swapCoordinates 4 = .ok (.iload_n 2, 1) := by decide +kernel
theorem dX10_swapCoordinates_5 : decode cX10_swapCoordinates 5 = .ok (.aload_n 0, 1) := by decide +kernel
theorem dX10_swapCoordinates_6 : decode cX10_swapCoordinates 6 = .ok (.getfield 111, 3) := by decide +kernel
theorem dX10_swapCoordinates_9 : decode cX10_swapCoordinates 9 = .ok (.if_icmp .ge 85, 3) := by decide +kernel
theorem dX10_swapCoordinates_12 : decode cX10_swapCoordinates 12 = .ok (.iconst 0, 1) := by decide +kernel
theorem dX10_swapCoordinates_13 : decode cX10_swapCoordinates 13 = .ok (.istore_n 3, 1) := by decide +kernel
theorem dX10_swapCoordinates_14 : decode cX10_swapCoordinates 14 = .ok (.iconst 0, 1) := by decide +kernel
theorem dX10_swapCoordinates_15 : decode cX10_swapCoordinates 15 = .ok (.istore 4, 2) := by decide +kernel
theorem dX10_swapCoordinates_17 : decode cX10_swapCoordinates 17 = .ok (.iload 4, 2) := by decide +kernel
theorem dX10_swapCoordinates_19 : decode cX10_swapCoordinates 19 = .ok (.aload_n 0, 1) := by decide +kernel
theorem dX10_swapCoordinates_20 : decode cX10_swapCoordinates 20 = .ok (.getfield 111, 3) := by decide +kernel
theorem dX10_swapCoordinates_23 : decode cX10_swapCoordinates 23 = .ok (.if_icmp .ge 51, 3) := by decide +kernel
theorem dX10_swapCoordinates_26 : decode cX10_swapCoordinates 26 = .ok (.iload_n 3, 1) := by decide +kernel
theorem dX10_swapCoordinates_27 : decode cX10_swapCoordinates 27 = .ok (.ifCond .ne 35, 3) := by decide +kernel
theorem dX10_swapCoordinates_30 : decode cX10_swapCoordinates 30 = .ok (.aload_n 0, 1) := by decide +kernel
theorem dX10_swapCoordinates_31 : decode cX10_swapCoordinates 31 = .ok (.getfield 13, 3) := by decide +kernel
theorem dX10_swapCoordinates_34 : decode cX10_swapCoordinates 34 = .ok (.iload 4, 2) := by decide +kernel
theorem dX10_swapCoordinates_36 : decode cX10_swapCoordinates 36 = .ok (.iaload, 1) := by decide +kernel
theorem dX10_swapCoordinates_37 : decode cX10_swapCoordinates 37 = .ok (.aload_n 0, 1) := by decide +kernel
theorem dX10_swapCoordinates_38 : decode cX10_swapCoordinates 38 = .ok (.getfield 17, 3) := by decide +kernel
theorem dX10_swapCoordinates_41 : decode cX10_swapCoordinates 41 = .ok (.iload_n 2, 1) := by decide +kernel
theorem dX10_swapCoordinates_42 : decode cX10_swapCoordinates 42 = .ok (.iaload, 1) := by decide +kernel
theorem dX10_swapCoordinates_43 : decode cX10_swapCoordinates 43 = .ok (.if_icmp .ne 23, 3) := by decide +kernel
theorem dX10_swapCoordinates_46 : decode cX10_swapCoordinates 46 = .ok (.aload_n 0, 1) := by decide +kernel
theorem dX10_swapCoordinates_47 : decode cX10_swapCoordinates 47 = .ok (.getfield 17, 3) := by decide +kernel
theorem dX10_swapCoordinates_50 : decode cX10_swapCoordinates 50 = .ok (.iload 4, 2) := by decide +kernel
theorem dX10_swapCoordinates_52 : decode cX10_swapCoordinates 52 = .ok (.iaload, 1) := by decide +kernel
theorem dX10_swapCoordinates_53 : decode cX10_swapCoordinates 53 = .ok (.aload_n 0, 1) := by decide +kernel
theorem dX10_swapCoordinates_54 : decode cX10_swapCoordinates 54 = .ok (.getfield 13, 3) := by decide +kernel
theorem dX10_swapCoordinates_57 : decode cX10_swapCoordinates 57 = .ok (.iload_n 2, 1) := by decide +kernel
theorem dX10_swapCoordinates_58 : decode cX10_swapCoordinates 58 = .ok (.iaload, 1) := by decide +kernel
theorem dX10_swapCoordinates_59 : decode cX10_swapCoordinates 59 = .ok (.if_icmp .ne 7, 3) := by decide +kernel
theorem dX10_swapCoordinates_62 : decode cX10_swapCoordinates 62 = .ok (.iconst 1, 1) := by decide +kernel
theorem dX10_swapCoordinates_63 : decode cX10_swapCoordinates 63 = .ok (.goto 4, 3) := by decide +kernel
theorem dX10_swapCoordinates_66 : decode cX10_swapCoordinates 66 = .ok (.iconst 0, 1) := by decide +kernel
theorem dX10_swapCoordinates_67 : decode cX10_swapCoordinates 67 = .ok (.istore_n 3, 1) := by decide +kernel
theorem dX10_swapCoordinates_68 : decode cX10_swapCoordinates 68 = .ok (.iinc 4 1, 3) := by decide +kernel
theorem dX10_swapCoordinates_71 : decode cX10_swapCoordinates 71 = .ok (.goto (-54), 3) := by decide +kernel
theorem dX10_swapCoordinates_74 : decode cX10_swapCoordinates 74 = .ok (.iload_n 1, 1) := by decide +kernel
theorem dX10_swapCoordinates_75 : decode cX10_swapCoordinates 75 = .ok (.ifCond .eq 11, 3) := by decide +kernel
theorem dX10_swapCoordinates_78 : decode cX10_swapCoordinates 78 = .ok (.iload_n 3, 1) := by decide +kernel
theorem dX10_swapCoordinates_79 : decode cX10_swapCoordinates 79 = .ok (.ifCond .eq 7, 3) := by decide +kernel
theorem dX10_swapCoordinates_82 : decode cX10_swapCoordinates 82 = .ok (.iconst 1, 1) := by decide +kernel
theorem dX10_swapCoordinates_83 : decode cX10_swapCoordinates 83 = .ok (.goto 4, 3) := by decide +kernel
theorem dX10_swapCoordinates_86 : decode cX10_swapCoordinates 86 = .ok (.iconst 0, 1) := by decide +kernel
theorem dX10_swapCoordinates_87 : decode cX10_swapCoordinates 87 = .ok (.istore_n 1, 1) := by decide +kernel
theorem dX10_swapCoordinates_88 : decode cX10_swapCoordinates 88 = .ok (.iinc 2 1, 3) := by decide +kernel
theorem dX10_swapCoordinates_91 : decode cX10_swapCoordinates 91 = .ok (.goto (-87), 3) := by decide +kernel
theorem dX10_swapCoordinates_94 : decode cX10_swapCoordinates 94 = .ok (.iconst 0, 1) := by decide +kernel
theorem dX10_swapCoordinates_95 : decode cX10_swapCoordinates 95 = .ok (.istore_n 2, 1) := by decide +kernel
theorem dX10_swapCoordinates_96 : decode cX10_swapCoordinates 96 = .ok (.iload_n 2, 1) := by decide +kernel
theorem dX10_swapCoordinates_97 : decode cX10_swapCoordinates 97 = .ok (.aload_n 0, 1) := by decide +kernel
theorem dX10_swapCoordinates_98 : decode cX10_swapCoordinates 98 = .ok (.getfield 111, 3) := by decide +kernel
theorem dX10_swapCoordinates_101 : decode cX10_swapCoordinates 101 = .ok (.if_icmp .ge 35, 3) := by decide +kernel
theorem dX10_swapCoordinates_104 : decode cX10_swapCoordinates 104 = .ok (.aload_n 0, 1) := by decide +kernel
theorem dX10_swapCoordinates_105 : decode cX10_swapCoordinates 105 = .ok (.getfield 13, 3) := by decide +kernel
theorem dX10_swapCoordinates_108 : decode cX10_swapCoordinates 108 = .ok (.iload_n 2, 1) := by decide +kernel
theorem dX10_swapCoordinates_109 : decode cX10_swapCoordinates 109 = .ok (.iaload, 1) := by decide +kernel
theorem dX10_swapCoordinates_110 : decode cX10_swapCoordinates 110 = .ok (.istore_n 3, 1) := by decide +kernel
theorem dX10_swapCoordinates_111 : decode cX10_swapCoordinates 111 = .ok (.aload_n 0, 1) := by decide +kernel
theorem dX10_swapCoordinates_112 : decode cX10_swapCoordinates 112 = .ok (.getfield 13, 3) := by decide +kernel
theorem dX10_swapCoordinates_115 : decode cX10_swapCoordinates 115 = .ok (.iload_n 2, 1) := by decide +kernel
theorem dX10_swapCoordinates_116 : decode cX10_swapCoordinates 116 = .ok (.aload_n 0, 1) := by decide +kernel
theorem dX10_swapCoordinates_117 : decode cX10_swapCoordinates 117 = .ok (.getfield 17, 3) := by decide +kernel
theorem dX10_swapCoordinates_120 : decode cX10_swapCoordinates 120 = .ok (.iload_n 2, 1) := by decide +kernel
theorem dX10_swapCoordinates_121 : decode cX10_swapCoordinates 121 = .ok (.iaload, 1) := by decide +kernel
theorem dX10_swapCoordinates_122 : decode cX10_swapCoordinates 122 = .ok (.iastore, 1) := by decide +kernel
theorem dX10_swapCoordinates_123 : decode cX10_swapCoordinates 123 = .ok (.aload_n 0, 1) := by decide +kernel
theorem dX10_swapCoordinates_124 : decode cX10_swapCoordinates 124 = .ok (.getfield 17, 3) := by decide +kernel
theorem dX10_swapCoordinates_127 : decode cX10_swapCoordinates 127 = .ok (.iload_n 2, 1) := by decide +kernel
theorem dX10_swapCoordinates_128 : decode cX10_swapCoordinates 128 = .ok (.iload_n 3, 1) := by decide +kernel
theorem dX10_swapCoordinates_129 : decode cX10_swapCoordinates 129 = .ok (.iastore, 1) := by decide +kernel
theorem dX10_swapCoordinates_130 : decode cX10_swapCoordinates 130 = .ok (.iinc 2 1, 3) := by decide +kernel
theorem dX10_swapCoordinates_133 : decode cX10_swapCoordinates 133 = .ok (.goto (-37), 3) := by decide +kernel
theorem dX10_swapCoordinates_136 : decode cX10_swapCoordinates 136 = .ok (.aload_n 0, 1) := by decide +kernel
theorem dX10_swapCoordinates_137 : decode cX10_swapCoordinates 137 = .ok (.iconst 0, 1) := by decide +kernel
theorem dX10_swapCoordinates_138 : decode cX10_swapCoordinates 138 = .ok (.putfield 122, 3) := by decide +kernel
theorem dX10_swapCoordinates_141 : decode cX10_swapCoordinates 141 = .ok (.iload_n 1, 1) := by decide +kernel
theorem dX10_swapCoordinates_142 : decode cX10_swapCoordinates 142 = .ok (.ifCond .eq 7, 3) := by decide +kernel
theorem dX10_swapCoordinates_145 : decode cX10_swapCoordinates 145 = .ok (.iconst 1, 1) := by decide +kernel
theorem dX10_swapCoordinates_146 : decode cX10_swapCoordinates 146 = .ok (.goto 4, 3) := by decide +kernel
theorem dX10_swapCoordinates_149 : decode cX10_swapCoordinates 149 = .ok (.iconst 0, 1) := by decide +kernel
theorem dX10_swapCoordinates_150 : decode cX10_swapCoordinates 150 = .ok (.ireturn, 1) := by decide +kernel
theorem dX10_translate_0 : decode cX10_translate 0 = .ok (.iload_n 1, 1) := by decide +kernel
theorem dX10_translate_1 : decode cX10_translate 1 = .ok (.iconst 0, 1) := by decide +kernel
theorem dX10_translate_2 : decode cX10_translate 2 = .ok (.aload_n 0, 1) := by decide +kernel
theorem dX10_translate_3 : decode cX10_translate 3 = .ok (.getfield 7, 3) := by decide +kernel
theorem dX10_translate_6 : decode cX10_translate 6 = .ok (.iconst 1, 1) := by decide +kernel
theorem dX10_translate_7 : decode cX10_translate 7 = .ok (.isub, 1) := by decide +kernel
theorem dX10_translate_8 : decode cX10_translate 8 = .ok (.invokestatic 114, 3) := by decide +kernel
theorem dX10_translate_11 : decode cX10_translate 11 = .ok (.ifCond .eq 17, 3) := by decide +kernel
theorem dX10_translate_14 : decode cX10_translate 14 = .ok (.iload_n 2, 1) := by decide +kernel
theorem dX10_translate_15 : decode cX10_translate 15 = .ok (.iconst 0, 1) := by decide +kernel
theorem dX10_translate_16 : decode cX10_translate 16 = .ok (.aload_n 0, 1) := by decide +kernel
theorem dX10_translate_17 : decode cX10_translate 17 = .ok (.getfield 7, 3) := by decide +kernel
theorem dX10_translate_20 : decode cX10_translate 20 = .ok (.iconst 1, 1) := by decide +kernel
theorem dX10_translate_21 : decode cX10_translate 21 = .ok (.isub, 1) := by decide +kernel
theorem dX10_translate_22 : decode cX10_translate 22 = .ok (.invokestatic 114, 3) := by decide +kernel
theorem dX10_translate_25 : decode cX10_translate 25 = .ok (.ifCond .ne 6, 3) := by decide +kernel
theorem dX10_translate_28 : decode cX10_translate 28 = .ok (.bipush (-2), 2) := by decide +kernel
theorem dX10_translate_30 : decode cX10_translate 30 = .ok (.ireturn, 1) := by decide +kernel
theorem dX10_translate_31 : decode cX10_translate 31 = .ok (.iconst 0, 1) := by decide +kernel
theorem dX10_translate_32 : decode cX10_translate 32 = .ok (.istore_n 3, 1) := by decide +kernel
theorem dX10_translate_33 : decode cX10_translate 33 = .ok (.iload_n 3, 1) := by decide +kernel
theorem dX10_translate_34 : decode cX10_translate 34 = .ok (.aload_n 0, 1) := by decide +kernel
theorem dX10_translate_35 : decode cX10_translate 35 = .ok (.getfield 111, 3) := by decide +kernel
theorem dX10_translate_38 : decode cX10_translate 38 = .ok (.if_icmp .ge 47, 3) := by decide +kernel
theorem dX10_translate_41 : decode cX10_translate 41 = .ok (.aload_n 0, 1) := by decide +kernel
theorem dX10_translate_42 : decode cX10_translate 42 = .ok (.getfield 13, 3) := by decide +kernel
theorem dX10_translate_45 : decode cX10_translate 45 = .ok (.iload_n 3, 1) := by decide +kernel
theorem dX10_translate_46 : decode cX10_translate 46 = .ok (.aload_n 0, 1) := by decide +kernel
theorem dX10_translate_47 : decode cX10_translate 47 = .ok (.getfield 13, 3) := by decide +kernel
theorem dX10_translate_50 : decode cX10_translate 50 = .ok (.iload_n 3, 1) := by decide +kernel
theorem dX10_translate_51 : decode cX10_translate 51 = .ok (.iaload, 1) := by decide +kernel
theorem dX10_translate_52 : decode cX10_translate 52 = .ok (.iload_n 1, 1) := by decide +kernel
theorem dX10_translate_53 : decode cX10_translate 53 = .ok (.iadd, 1) := by decide +kernel
theorem dX10_translate_54 : decode cX10_translate 54 = .ok (.aload_n 0, 1) := by decide +kernel
theorem dX10_translate_55 : decode cX10_translate 55 = .ok (.getfield 7, 3) := by decide +kernel
theorem dX10_translate_58 : decode cX10_translate 58 = .ok (.irem, 1) := by decide +kernel
theorem dX10_translate_59 : decode cX10_translate 59 = .ok (.iastore, 1) := by decide +kernel
theorem dX10_translate_60 : decode cX10_translate 60 = .ok (.aload_n 0, 1) := by decide +kernel
theorem dX10_translate_61 : decode cX10_translate 61 = .ok (.getfield 17, 3) := by decide +kernel
theorem dX10_translate_64 : decode cX10_translate 64 = .ok (.iload_n 3, 1) := by decide +kernel
theorem dX10_translate_65 : decode cX10_translate 65 = .ok (.aload_n 0, 1) := by decide +kernel
theorem dX10_translate_66 : decode cX10_translate 66 = .ok (.getfield 17, 3) := by decide +kernel
theorem dX10_translate_69 : decode cX10_translate 69 = .ok (.iload_n 3, 1) := by decide +kernel
theorem dX10_translate_70 : decode cX10_translate 70 = .ok (.iaload, 1) := by decide +kernel
theorem dX10_translate_71 : decode cX10_translate 71 = .ok (.iload_n 2, 1) := by decide +kernel
theorem dX10_translate_72 : decode cX10_translate 72 = .ok (.iadd, 1) := by decide +kernel
theorem dX10_translate_73 : decode cX10_translate 73 = .ok (.aload_n 0, 1) := by decide +kernel
theorem dX10_translate_74 : decode cX10_translate 74 = .ok (.getfield 7, 3) := by decide +kernel
theorem dX10_translate_77 : decode cX10_translate 77 = .ok (.irem, 1) := by decide +kernel
theorem dX10_translate_78 : decode cX10_translate 78 = .ok (.iastore, 1) := by decide +kernel
theorem dX10_translate_79 : decode cX10_translate 79 = .ok (.iinc 3 1, 3) := by decide +kernel
theorem dX10_translate_82 : decode cX10_translate 82 = .ok (.goto (-49), 3) := by decide +kernel
theorem dX10_translate_85 : decode cX10_translate 85 = .ok (.aload_n 0, 1) := by decide +kernel
theorem dX10_translate_86 : decode cX10_translate 86 = .ok (.iconst 0, 1) := by decide +kernel
theorem dX10_translate_87 : decode cX10_translate 87 = .ok (.putfield 122, 3) := by decide +kernel
theorem dX10_translate_90 : decode cX10_translate 90 = .ok (.aload_n 0, 1) := by decide +kernel
theorem dX10_translate_91 : decode cX10_translate 91 = .ok (.getfield 111, 3) := by decide +kernel
theorem dX10_translate_94 : decode cX10_translate 94 = .ok (.ireturn, 1) := by decide +kernel
theorem dX10_scale_0 : decode cX10_scale 0 = .ok (.iload_n 1, 1) := by decide +kernel
theorem dX10_scale_1 : decode cX10_scale 1 = .ok (.iconst 1, 1) := by decide +kernel
theorem dX10_scale_2 : decode cX10_scale 2 = .ok (.aload_n 0, 1) := by decide +kernel
theorem dX10_scale_3 : decode cX10_scale 3 = .ok (.getfield 7, 3) := by decide +kernel
theorem dX10_scale_6 : decode cX10_scale 6 = .ok (.iconst 1, 1) := by decide +kernel
theorem dX10_scale_7 : decode cX10_scale 7 = .ok (.isub, 1) := by decide +kernel
theorem dX10_scale_8 : decode cX10_scale 8 = .ok (.invokestatic 114, 3) := by decide +kernel
theorem dX10_scale_11 : decode cX10_scale 11 = .ok (.ifCond .eq 17, 3) := by decide +kernel
theorem dX10_scale_14 : decode cX10_scale 14 = .ok (.iload_n 2, 1) := by decide +kernel
theorem dX10_scale_15 : decode cX10_scale 15 = .ok (.iconst 1, 1) := by decide +kernel
theorem dX10_scale_16 : decode cX10_scale 16 = .ok (.aload_n 0, 1) := by decide +kernel
theorem dX10_scale_17 : decode cX10_scale 17 = .ok (.getfield 7, 3) := by decide +kernel
theorem dX10_scale_20 : decode cX10_scale 20 = .ok (.iconst 1, 1) := by decide +kernel
theorem dX10_scale_21 : decode cX10_scale 21 = .ok (.isub, 1) := by decide +kernel
theorem dX10_scale_22 : decode cX10_scale 22 = .ok (.invokestatic 114, 3) := by decide +kernel
theorem dX10_scale_25 : decode cX10_scale 25 = .ok (.ifCond .ne 6, 3) := by decide +kernel
theorem dX10_scale_28 : decode cX10_scale 28 = .ok (.bipush (-2), 2) := by decide +kernel
theorem dX10_scale_30 : decode cX10_scale 30 = .ok (.ireturn, 1) := by decide +kernel
theorem dX10_scale_31 : decode cX10_scale 31 = .ok (.iconst 0, 1) := by decide +kernel
theorem dX10_scale_32 : decode cX10_scale 32 = .ok (.istore_n 3, 1) := by decide +kernel
theorem dX10_scale_33 : decode cX10_scale 33 = .ok (.iload_n 3, 1) := by decide +kernel
theorem dX10_scale_34 : decode cX10_scale 34 = .ok (.aload_n 0, 1) := by decide +kernel
theorem dX10_scale_35 : decode cX10_scale 35 = .ok (.getfield 111, 3) := by decide +kernel
theorem dX10_scale_38 : decode cX10_scale 38 = .ok (.if_icmp .ge 47, 3) := by decide +kernel
theorem dX10_scale_41 : decode cX10_scale 41 = .ok (.aload_n 0, 1) := by decide +kernel
theorem dX10_scale_42 : decode cX10_scale 42 = .ok (.getfield 13, 3) := by decide +kernel
theorem dX10_scale_45 : decode cX10_scale 45 = .ok (.iload_n 3, 1) := by decide +kernel
theorem dX10_scale_46 : decode cX10_scale 46 = .ok (.aload_n 0, 1) := by decide +kernel
theorem dX10_scale_47 : decode cX10_scale 47 = .ok (.getfield 13, 3) := by decide +kernel
theorem dX10_scale_50 : decode cX10_scale 50 = .ok (.iload_n 3, 1) := by decide +kernel
theorem dX10_scale_51 : decode cX10_scale 51 = .ok (.iaload, 1) := by decide +kernel
theorem dX10_scale_52 : decode cX10_scale 52 = .ok (.iload_n 1, 1) := by decide +kernel
theorem dX10_scale_53 : decode cX10_scale 53 = .ok (.imul, 1) := by decide +kernel
theorem dX10_scale_54 : decode cX10_scale 54 = .ok (.aload_n 0, 1) := by decide +kernel
theorem dX10_scale_55 : decode cX10_scale 55 = .ok (.getfield 7, 3) := by decide +kernel
theorem dX10_scale_58 : decode cX10_scale 58 = .ok (.irem, 1) := by decide +kernel
theorem dX10_scale_59 : decode cX10_scale 59 = .ok (.iastore, 1) := by decide +kernel
theorem dX10_scale_60 : decode cX10_scale 60 = .ok (.aload_n 0, 1) := by decide +kernel
theorem dX10_scale_61 : decode cX10_scale 61 = .ok (.getfield 17, 3) := by decide +kernel
theorem dX10_scale_64 : decode cX10_scale 64 = .ok (.iload_n 3, 1) := by decide +kernel
theorem dX10_scale_65 : decode cX10_scale 65 = .ok (.aload_n 0, 1) := by decide +kernel
theorem dX10_scale_66 : decode cX10_scale 66 = .ok (.getfield 17, 3) := by decide +kernel
theorem dX10_scale_69 : decode cX10_scale 69 = .ok (.iload_n 3, 1) := by decide +kernel
theorem dX10_scale_70 : decode cX10_scale 70 = .ok (.iaload, 1) := by decide +kernel
theorem dX10_scale_71 : decode cX10_scale 71 = .ok (.iload_n 2, 1) := by decide +kernel
theorem dX10_scale_72 : decode cX10_scale 72 = .ok (.imul, 1) := by decide +kernel
theorem dX10_scale_73 : decode cX10_scale 73 = .ok (.aload_n 0, 1) := by decide +kernel
theorem dX10_scale_74 : decode cX10_scale 74 = .ok (.getfield 7, 3) := by decide +kernel
theorem dX10_scale_77 : decode cX10_scale 77 = .ok (.irem, 1) := by decide +kernel
theorem dX10_scale_78 : decode cX10_scale 78 = .ok (.iastore, 1) := by decide +kernel
theorem dX10_scale_79 : decode cX10_scale 79 = .ok (.iinc 3 1, 3) := by decide +kernel
theorem dX10_scale_82 : decode cX10_scale 82 = .ok (.goto (-49), 3) := by decide +kernel
theorem dX10_scale_85 : decode cX10_scale 85 = .ok (.aload_n 0, 1) := by decide +kernel
theorem dX10_scale_86 : decode cX10_scale 86 = .ok (.iconst 0, 1) := by decide +kernel
theorem dX10_scale_87 : decode cX10_scale 87 = .ok (.putfield 122, 3) := by decide +kernel
theorem dX10_scale_90 : decode cX10_scale 90 = .ok (.aload_n 0, 1) := by decide +kernel
theorem dX10_scale_91 : decode cX10_scale 91 = .ok (.getfield 111, 3) := by decide +kernel
theorem dX10_scale_94 : decode cX10_scale 94 = .ok (.ireturn, 1) := by decide +kernel
theorem dX10_isGreater_0 : decode cX10_isGreater 0 = .ok (.iload_n 0, 1) := by decide +kernel
theorem dX10_isGreater_1 : decode cX10_isGreater 1 = .ok (.bipush 9, 2) := by decide +kernel
theorem dX10_isGreater_3 : decode cX10_isGreater 3 = .ok (.idiv, 1) := by decide +kernel
theorem dX10_isGreater_4 : decode cX10_isGreater 4 = .ok (.istore 5, 2) := by decide +kernel
theorem dX10_isGreater_6 : decode cX10_isGreater 6 = .ok (.iload_n 0, 1) := by decide +kernel
theorem dX10_isGreater_7 : decode cX10_isGreater 7 = .ok (.bipush 9, 2) := by decide +kernel
theorem dX10_isGreater_9 : decode cX10_isGreater 9 = .ok (.irem, 1) := by decide +kernel
theorem dX10_isGreater_10 : decode cX10_isGreater 10 = .ok (.istore 6, 2) := by decide +kernel
theorem dX10_isGreater_12 : decode cX10_isGreater 12 = .ok (.iload_n 1, 1) := by decide +kernel
theorem dX10_isGreater_13 : decode cX10_isGreater 13 = .ok (.bipush 9, 2) := by decide +kernel
theorem dX10_isGreater_15 : decode cX10_isGreater 15 = .ok (.idiv, 1) := by decide +kernel
theorem dX10_isGreater_16 : decode cX10_isGreater 16 = .ok (.istore 7, 2) := by decide +kernel
theorem dX10_isGreater_18 : decode cX10_isGreater 18 = .ok (.iload_n 1, 1) := by decide +kernel
theorem dX10_isGreater_19 : decode cX10_isGreater 19 = .ok (.bipush 9, 2) := by decide +kernel
theorem dX10_isGreater_21 : decode cX10_isGreater 21 = .ok (.irem, 1) := by decide +kernel
theorem dX10_isGreater_22 : decode cX10_isGreater 22 = .ok (.istore 8, 2) := by decide +kernel
theorem dX10_isGreater_24 : decode cX10_isGreater 24 = .ok (.iload_n 2, 1) := by decide +kernel
theorem dX10_isGreater_25 : decode cX10_isGreater 25 = .ok (.iload 5, 2) := by decide +kernel
theorem dX10_isGreater_27 : decode cX10_isGreater 27 = .ok (.iload 7, 2) := by decide +kernel
theorem dX10_isGreater_29 : decode cX10_isGreater 29 = .ok (.isub, 1) := by decide +kernel
theorem dX10_isGreater_30 : decode cX10_isGreater 30 = .ok (.imul, 1) := by decide +kernel
theorem dX10_isGreater_31 : decode cX10_isGreater 31 = .ok (.iload_n 3, 1) := by decide +kernel
theorem dX10_isGreater_32 : decode cX10_isGreater 32 = .ok (.iload 6, 2) := by decide +kernel
theorem dX10_isGreater_34 : decode cX10_isGreater 34 = .ok (.iload 8, 2) := by decide +kernel
theorem dX10_isGreater_36 : decode cX10_isGreater 36 = .ok (.isub, 1) := by decide +kernel
theorem dX10_isGreater_37 : decode cX10_isGreater 37 = .ok (.imul, 1) := by decide +kernel
theorem dX10_isGreater_38 : decode cX10_isGreater 38 = .ok (.iadd, 1) := by decide +kernel
theorem dX10_isGreater_39 : decode cX10_isGreater 39 = .ok (.istore 9, 2) := by decide +kernel
theorem dX10_isGreater_41 : decode cX10_isGreater 41 = .ok (.iload 9, 2) := by decide +kernel
theorem dX10_isGreater_43 : decode cX10_isGreater 43 = .ok (.ifCond .eq 14, 3) := by decide +kernel
theorem dX10_isGreater_46 : decode cX10_isGreater 46 = .ok (.iload 9, 2) := by decide +kernel
theorem dX10_isGreater_48 : decode cX10_isGreater 48 = .ok (.ifCond .le 7, 3) := by decide +kernel
theorem dX10_isGreater_51 : decode cX10_isGreater 51 = .ok (.iconst 1, 1) := by decide +kernel
theorem dX10_isGreater_52 : decode cX10_isGreater 52 = .ok (.goto 4, 3) := by decide +kernel
theorem dX10_isGreater_55 : decode cX10_isGreater 55 = .ok (.iconst 0, 1) := by decide +kernel
theorem dX10_isGreater_56 : decode cX10_isGreater 56 = .ok (.ireturn, 1) := by decide +kernel
theorem dX10_isGreater_57 : decode cX10_isGreater 57 = .ok (.iload 4, 2) := by decide +kernel
theorem dX10_isGreater_59 : decode cX10_isGreater 59 = .ok (.ifCond .ne 32, 3) := by decide +kernel
theorem dX10_isGreater_62 : decode cX10_isGreater 62 = .ok (.iload 5, 2) := by decide +kernel
theorem dX10_isGreater_64 : decode cX10_isGreater 64 = .ok (.iload 7, 2) := by decide +kernel
theorem dX10_isGreater_66 : decode cX10_isGreater 66 = .ok (.if_icmp .gt 17, 3) := by decide +kernel
theorem dX10_isGreater_69 : decode cX10_isGreater 69 = .ok (.iload 5, 2) := by decide +kernel
theorem dX10_isGreater_71 : decode cX10_isGreater 71 = .ok (.iload 7, 2) := by decide +kernel
theorem dX10_isGreater_73 : decode cX10_isGreater 73 = .ok (.if_icmp .ne 14, 3) := by decide +kernel
theorem dX10_isGreater_76 : decode cX10_isGreater 76 = .ok (.iload 6, 2) := by decide +kernel
theorem dX10_isGreater_78 : decode cX10_isGreater 78 = .ok (.iload 8, 2) := by decide +kernel
theorem dX10_isGreater_80 : decode cX10_isGreater 80 = .ok (.if_icmp .le 7, 3) := by decide +kernel
theorem dX10_isGreater_83 : decode cX10_isGreater 83 = .ok (.iconst 1, 1) := by decide +kernel
theorem dX10_isGreater_84 : decode cX10_isGreater 84 = .ok (.goto 33, 3) := by decide +kernel
theorem dX10_isGreater_87 : decode cX10_isGreater 87 = .ok (.iconst 0, 1) := by decide +kernel
theorem dX10_isGreater_88 : decode cX10_isGreater 88 = .ok (.goto 29, 3) := by decide +kernel
theorem dX10_isGreater_91 : decode cX10_isGreater 91 = .ok (.iload 6, 2) := by decide +kernel
theorem dX10_isGreater_93 : decode cX10_isGreater 93 = .ok (.iload 8, 2) := by decide +kernel
theorem dX10_isGreater_95 : decode cX10_isGreater 95 = .ok (.if_icmp .gt 17, 3) := by decide +kernel
theorem dX10_isGreater_98 : decode cX10_isGreater 98 = .ok (.iload 6, 2) := by decide +kernel
theorem dX10_isGreater_100 : decode cX10_isGreater 100 = .ok (.iload 8, 2) := by decide +kernel
theorem dX10_isGreater_102 : decode cX10_isGreater 102 = .ok (.if_icmp .ne 14, 3) := by decide +kernel
theorem dX10_isGreater_105 : decode cX10_isGreater 105 = .ok (.iload 5, 2) := by decide +kernel
theorem dX10_isGreater_107 : decode cX10_isGreater 107 = .ok (.iload 7, 2) := by decide +kernel
theorem dX10_isGreater_109 : decode cX10_isGreater 109 = .ok (.if_icmp .le 7, 3) := by decide +kernel
theorem dX10_isGreater_112 : decode cX10_isGreater 112 = .ok (.iconst 1, 1) := by decide +kernel
theorem dX10_isGreater_113 : decode cX10_isGreater 113 = .ok (.goto 4, 3) := by decide +kernel
theorem dX10_isGreater_116 : decode cX10_isGreater 116 = .ok (.iconst 0, 1) := by decide +kernel
theorem dX10_isGreater_117 : decode cX10_isGreater 117 = .ok (.ireturn, 1) := by decide +kernel
theorem dX10_sort_0 : decode cX10_sort 0 = .ok (.iconst 0, 1) := by decide +kernel
theorem dX10_sort_1 : decode cX10_sort 1 = .ok (.istore 4, 2) := by decide +kernel
theorem dX10_sort_3 : decode cX10_sort 3 = .ok (.iload 4, 2) := by decide +kernel
theorem dX10_sort_5 : decode cX10_sort 5 = .ok (.bipush 81, 2) := by decide +kernel
theorem dX10_sort_7 : decode cX10_sort 7 = .ok (.if_icmp .ge 69, 3) := by decide +kernel
theorem dX10_sort_10 : decode cX10_sort 10 = .ok (.iload 4, 2) := by decide +kernel
theorem dX10_sort_12 : decode cX10_sort 12 = .ok (.istore 5, 2) := by decide +kernel
theorem dX10_sort_14 : decode cX10_sort 14 = .ok (.iload 5, 2) := by decide +kernel
theorem dX10_sort_16 : decode cX10_sort 16 = .ok (.ifCond .le 45, 3) := by decide +kernel
theorem dX10_sort_19 : decode cX10_sort 19 = .ok (.aload_n 0, 1) := by decide +kernel
theorem dX10_sort_20 : decode cX10_sort 20 = .ok (.getfield 23, 3) := by decide +kernel
theorem dX10_sort_23 : decode cX10_sort 23 = .ok (.iload 5, 2) := by decide +kernel
theorem dX10_sort_25 : decode cX10_sort 25 = .ok (.iconst 1, 1) := by decide +kernel
theorem dX10_sort_26 : decode cX10_sort 26 = .ok (.isub, 1) := by decide +kernel
theorem dX10_sort_27 : decode cX10_sort 27 = .ok (.iaload, 1) := by decide +kernel
theorem dX10_sort_28 : decode cX10_sort 28 = .ok (.iload 4, 2) := by decide +kernel
theorem dX10_sort_30 : decode cX10_sort 30 = .ok (.iload_n 1, 1) := by decide +kernel
theorem dX10_sort_31 : decode cX10_sort 31 = .ok (.iload_n 2, 1) := by decide +kernel
theorem dX10_sort_32 : decode cX10_sort 32 = .ok (.iload_n 3, 1) := by decide +kernel
theorem dX10_sort_33 : decode cX10_sort 33 = .ok (.invokestatic 132, 3) := by decide +kernel
theorem dX10_sort_36 : decode cX10_sort 36 = .ok (.ifCond .eq 25, 3) := by decide +kernel
theorem dX10_sort_39 : decode cX10_sort 39 = .ok (.aload_n 0, 1) := by decide +kernel
theorem dX10_sort_40 : decode cX10_sort 40 = .ok (.getfield 23, 3) := by decide +kernel
theorem dX10_sort_43 : decode cX10_sort 43 = .ok (.iload 5, 2) := by decide +kernel
theorem dX10_sort_45 : decode cX10_sort 45 = .ok (.aload_n 0, 1) := by decide +kernel
theorem dX10_sort_46 : decode cX10_sort 46 = .ok (.getfield 23, 3) := by decide +kernel
theorem dX10_sort_49 : decode cX10_sort 49 = .ok (.iload 5, 2) := by decide +kernel
theorem dX10_sort_51 : decode cX10_sort 51 = .ok (.iconst 1, 1) := by decide +kernel
theorem dX10_sort_52 : decode cX10_sort 52 = .ok (.isub, 1) := by decide +kernel
theorem dX10_sort_53 : decode cX10_sort 53 = .ok (.iaload, 1) := by decide +kernel
theorem dX10_sort_54 : decode cX10_sort 54 = .ok (.iastore, 1) := by decide +kernel
theorem dX10_sort_55 : decode cX10_sort 55 = .ok (.iinc 5 (-1), 3) := by decide +kernel
theorem dX10_sort_58 : decode cX10_sort 58 = .ok (.goto (-44), 3) := by decide +kernel
theorem dX10_sort_61 : decode cX10_sort 61 = .ok (.aload_n 0, 1) := by decide +kernel
theorem dX10_sort_62 : decode cX10_sort 62 = .ok (.getfield 23, 3) := by decide +kernel
theorem dX10_sort_65 : decode cX10_sort 65 = .ok (.iload 5, 2) := by decide +kernel
theorem dX10_sort_67 : decode cX10_sort 67 = .ok (.iload 4, 2) := by decide +kernel
theorem dX10_sort_69 : decode cX10_sort 69 = .ok (.iastore, 1) := by decide +kernel
theorem dX10_sort_70 : decode cX10_sort 70 = .ok (.iinc 4 1, 3) := by decide +kernel
theorem dX10_sort_73 : decode cX10_sort 73 = .ok (.goto (-70), 3) := by decide +kernel
theorem dX10_sort_76 : decode cX10_sort 76 = .ok (.return_, 1) := by decide +kernel
theorem dX10_reduce_0 : decode cX10_reduce 0 = .ok (.iconst 0, 1) := by decide +kernel
theorem dX10_reduce_1 : decode cX10_reduce 1 = .ok (.istore_n 2, 1) := by decide +kernel
theorem dX10_reduce_2 : decode cX10_reduce 2 = .ok (.iload_n 2, 1) := by decide +kernel
theorem dX10_reduce_3 : decode cX10_reduce 3 = .ok (.aload_n 0, 1) := by decide +kernel
theorem dX10_reduce_4 : decode cX10_reduce 4 = .ok (.getfield 111, 3) := by decide +kernel
theorem dX10_reduce_7 : decode cX10_reduce 7 = .ok (.if_icmp .ge 56, 3) := by decide +kernel
theorem dX10_reduce_10 : decode cX10_reduce 10 = .ok (.aload_n 0, 1) := by decide +kernel
theorem dX10_reduce_11 : decode cX10_reduce 11 = .ok (.getfield 42, 3) := by decide +kernel
theorem dX10_reduce_14 : decode cX10_reduce 14 = .ok (.iload_n 2, 1) := by decide +kernel
theorem dX10_reduce_15 : decode cX10_reduce 15 = .ok (.aload_n 0, 1) := by decide +kernel
theorem dX10_reduce_16 : decode cX10_reduce 16 = .ok (.aload_n 0, 1) := by decide +kernel
theorem dX10_reduce_17 : decode cX10_reduce 17 = .ok (.getfield 13, 3) := by decide +kernel
theorem dX10_reduce_20 : decode cX10_reduce 20 = .ok (.iload_n 2, 1) := by decide +kernel
theorem dX10_reduce_21 : decode cX10_reduce 21 = .ok (.iaload, 1) := by decide +kernel
theorem dX10_reduce_22 : decode cX10_reduce 22 = .ok (.iload_n 1, 1) := by decide +kernel
theorem dX10_reduce_23 : decode cX10_reduce 23 = .ok (.bipush 9, 2) := by decide +kernel
theorem dX10_reduce_25 : decode cX10_reduce 25 = .ok (.idiv, 1) := by decide +kernel
theorem dX10_reduce_26 : decode cX10_reduce 26 = .ok (.invokevirtual 136, 3) := by decide +kernel
theorem dX10_reduce_29 : decode cX10_reduce 29 = .ok (.aload_n 0, 1) := by decide +kernel
theorem dX10_reduce_30 : decode cX10_reduce 30 = .ok (.aload_n 0, 1) := by decide +kernel
theorem dX10_reduce_31 : decode cX10_reduce 31 = .ok (.getfield 17, 3) := by decide +kernel
theorem dX10_reduce_34 : decode cX10_reduce 34 = .ok (.iload_n 2, 1) := by decide +kernel
theorem dX10_reduce_35 : decode cX10_reduce 35 = .ok (.iaload, 1) := by decide +kernel
theorem dX10_reduce_36 : decode cX10_reduce 36 = .ok (.iload_n 1, 1) := by decide +kernel
theorem dX10_reduce_37 : decode cX10_reduce 37 = .ok (.bipush 9, 2) := by decide +kernel
theorem dX10_reduce_39 : decode cX10_reduce 39 = .ok (.irem, 1) := by decide +kernel
theorem dX10_reduce_40 : decode cX10_reduce 40 = .ok (.invokevirtual 136, 3) := by decide +kernel
theorem dX10_reduce_43 : decode cX10_reduce 43 = .ok (.imul, 1) := by decide +kernel
theorem dX10_reduce_44 : decode cX10_reduce 44 = .ok (.aload_n 0, 1) := by decide +kernel
theorem dX10_reduce_45 : decode cX10_reduce 45 = .ok (.getfield 7, 3) := by decide +kernel
theorem dX10_reduce_48 : decode cX10_reduce 48 = .ok (.irem, 1) := by decide +kernel
theorem dX10_reduce_49 : decode cX10_reduce 49 = .ok (.iastore, 1) := by decide +kernel
theorem dX10_reduce_50 : decode cX10_reduce 50 = .ok (.aload_n 0, 1) := by decide +kernel
theorem dX10_reduce_51 : decode cX10_reduce 51 = .ok (.getfield 45, 3) := by decide +kernel
theorem dX10_reduce_54 : decode cX10_reduce 54 = .ok (.iload_n 2, 1) := by decide +kernel
theorem dX10_reduce_55 : decode cX10_reduce 55 = .ok (.iconst 0, 1) := by decide +kernel
theorem dX10_reduce_56 : decode cX10_reduce 56 = .ok (.iastore, 1) := by decide +kernel
theorem dX10_reduce_57 : decode cX10_reduce 57 = .ok (.iinc 2 1, 3) := by decide +kernel
theorem dX10_reduce_60 : decode cX10_reduce 60 = .ok (.goto (-58), 3) := by decide +kernel
theorem dX10_reduce_63 : decode cX10_reduce 63 = .ok (.iconst 0, 1) := by decide +kernel
theorem dX10_reduce_64 : decode cX10_reduce 64 = .ok (.istore_n 2, 1) := by decide +kernel
theorem dX10_reduce_65 : decode cX10_reduce 65 = .ok (.iload_n 2, 1) := by decide +kernel
theorem dX10_reduce_66 : decode cX10_reduce 66 = .ok (.aload_n 0, 1) := by decide +kernel
theorem dX10_reduce_67 : decode cX10_reduce 67 = .ok (.getfield 140, 3) := by decide +kernel
theorem dX10_reduce_70 : decode cX10_reduce 70 = .ok (.if_icmp .ge 127, 3) := by decide +kernel
theorem dX10_reduce_73 : decode cX10_reduce 73 = .ok (.aload_n 0, 1) := by decide +kernel
theorem dX10_reduce_74 : decode cX10_reduce 74 = .ok (.getfield 42, 3) := by decide +kernel
theorem dX10_reduce_77 : decode cX10_reduce 77 = .ok (.aload_n 0, 1) := by decide +kernel
theorem dX10_reduce_78 : decode cX10_reduce 78 = .ok (.getfield 39, 3) := by decide +kernel
theorem dX10_reduce_81 : decode cX10_reduce 81 = .ok (.iload_n 2, 1) := by decide +kernel
theorem dX10_reduce_82 : decode cX10_reduce 82 = .ok (.iaload, 1) := by decide +kernel
theorem dX10_reduce_83 : decode cX10_reduce 83 = .ok (.iaload, 1) := by decide +kernel
theorem dX10_reduce_84 : decode cX10_reduce 84 = .ok (.istore_n 3, 1) := by decide +kernel
theorem dX10_reduce_85 : decode cX10_reduce 85 = .ok (.iconst 0, 1) := by decide +kernel
theorem dX10_reduce_86 : decode cX10_reduce 86 = .ok (.istore 4, 2) := by decide +kernel
theorem dX10_reduce_88 : decode cX10_reduce 88 = .ok (.iload 4, 2) := by decide +kernel
theorem dX10_reduce_90 : decode cX10_reduce 90 = .ok (.aload_n 0, 1) := by decide +kernel
theorem dX10_reduce_91 : decode cX10_reduce 91 = .ok (.getfield 111, 3) := by decide +kernel
theorem dX10_reduce_94 : decode cX10_reduce 94 = .ok (.if_icmp .ge 45, 3) := by decide +kernel
theorem dX10_reduce_97 : decode cX10_reduce 97 = .ok (.aload_n 0, 1) := by decide +kernel
theorem dX10_reduce_98 : decode cX10_reduce 98 = .ok (.getfield 42, 3) := by decide +kernel
theorem dX10_reduce_101 : decode cX10_reduce 101 = .ok (.iload 4, 2) := by decide +kernel
theorem dX10_reduce_103 : decode cX10_reduce 103 = .ok (.aload_n 0, 1) := by decide +kernel
theorem dX10_reduce_104 : decode cX10_reduce 104 = .ok (.getfield 42, 3) := by decide +kernel
theorem dX10_reduce_107 : decode cX10_reduce 107 = .ok (.iload 4, 2) := by decide +kernel
theorem dX10_reduce_109 : decode cX10_reduce 109 = .ok (.iaload, 1) := by decide +kernel
theorem dX10_reduce_110 : decode cX10_reduce 110 = .ok (.iload_n 3, 1) := by decide +kernel
theorem dX10_reduce_111 : decode cX10_reduce 111 = .ok (.aload_n 0, 1) := by decide +kernel
theorem dX10_reduce_112 : decode cX10_reduce 112 = .ok (.getfield 33, 3) := by decide +kernel
theorem dX10_reduce_115 : decode cX10_reduce 115 = .ok (.bipush 8, 2) := by decide +kernel
theorem dX10_reduce_117 : decode cX10_reduce 117 = .ok (.iload_n 2, 1) := by decide +kernel
theorem dX10_reduce_118 : decode cX10_reduce 118 = .ok (.imul, 1) := by decide +kernel
theorem dX10_reduce_119 : decode cX10_reduce 119 = .ok (.iload 4, 2) := by decide +kernel
theorem dX10_reduce_121 : decode cX10_reduce 121 = .ok (.iadd, 1) := by decide +kernel
theorem dX10_reduce_122 : decode cX10_reduce 122 = .ok (.iaload, 1) := by decide +kernel
theorem dX10_reduce_123 : decode cX10_reduce 123 = .ok (.imul, 1) := by decide +kernel
theorem dX10_reduce_124 : decode cX10_reduce 124 = .ok (.isub, 1) := by decide +kernel
theorem dX10_reduce_125 : decode cX10_reduce 125 = .ok (.aload_n 0, 1) := by decide +kernel
theorem dX10_reduce_126 : decode cX10_reduce 126 = .ok (.getfield 7, 3) := by decide +kernel
theorem dX10_reduce_129 : decode cX10_reduce 129 = .ok (.invokestatic 143, 3) := by decide +kernel
theorem dX10_reduce_132 : decode cX10_reduce 132 = .ok (.iastore, 1) := by decide +kernel
theorem dX10_reduce_133 : decode cX10_reduce 133 = .ok (.iinc 4 1, 3) := by decide +kernel
theorem dX10_reduce_136 : decode cX10_reduce 136 = .ok (.goto (-48), 3) := by decide +kernel
theorem dX10_reduce_139 : decode cX10_reduce 139 = .ok (.iconst 0, 1) := by decide +kernel
theorem dX10_reduce_140 : decode cX10_reduce 140 = .ok (.istore 4, 2) := by decide +kernel
theorem dX10_reduce_142 : decode cX10_reduce 142 = .ok (.iload 4, 2) := by decide +kernel
theorem dX10_reduce_144 : decode cX10_reduce 144 = .ok (.aload_n 0, 1) := by decide +kernel
theorem dX10_reduce_145 : decode cX10_reduce 145 = .ok (.getfield 140, 3) := by decide +kernel
theorem dX10_reduce_148 : decode cX10_reduce 148 = .ok (.if_icmp .ge 43, 3) := by decide +kernel
theorem dX10_reduce_151 : decode cX10_reduce 151 = .ok (.aload_n 0, 1) := by decide +kernel
theorem dX10_reduce_152 : decode cX10_reduce 152 = .ok (.getfield 45, 3) := by decide +kernel
theorem dX10_reduce_155 : decode cX10_reduce 155 = .ok (.iload 4, 2) := by decide +kernel
theorem dX10_reduce_157 : decode cX10_reduce 157 = .ok (.aload_n 0, 1) := by decide +kernel
theorem dX10_reduce_158 : decode cX10_reduce 158 = .ok (.getfield 45, 3) := by decide +kernel
theorem dX10_reduce_161 : decode cX10_reduce 161 = .ok (.iload 4, 2) := by decide +kernel
theorem dX10_reduce_163 : decode cX10_reduce 163 = .ok (.iaload, 1) := by decide +kernel
theorem dX10_reduce_164 : decode cX10_reduce 164 = .ok (.iload_n 3, 1) := by decide +kernel
theorem dX10_reduce_165 : decode cX10_reduce 165 = .ok (.aload_n 0, 1) := by decide +kernel
theorem dX10_reduce_166 : decode cX10_reduce 166 = .ok (.getfield 36, 3) := by decide +kernel
theorem dX10_reduce_169 : decode cX10_reduce 169 = .ok (.bipush 8, 2) := by decide +kernel
theorem dX10_reduce_171 : decode cX10_reduce 171 = .ok (.iload_n 2, 1) := by decide +kernel
theorem dX10_reduce_172 : decode cX10_reduce 172 = .ok (.imul, 1) := by decide +kernel
theorem dX10_reduce_173 : decode cX10_reduce 173 = .ok (.iload 4, 2) := by decide +kernel
theorem dX10_reduce_175 : decode cX10_reduce 175 = .ok (.iadd, 1) := by decide +kernel
theorem dX10_reduce_176 : decode cX10_reduce 176 = .ok (.iaload, 1) := by decide +kernel
theorem dX10_reduce_177 : decode cX10_reduce 177 = .ok (.imul, 1) := by decide +kernel
theorem dX10_reduce_178 : decode cX10_reduce 178 = .ok (.iadd, 1) := by decide +kernel
theorem dX10_reduce_179 : decode cX10_reduce 179 = .ok (.aload_n 0, 1) := by decide +kernel
theorem dX10_reduce_180 : decode cX10_reduce 180 = .ok (.getfield 7, 3) := by decide +kernel
theorem dX10_reduce_183 : decode cX10_reduce 183 = .ok (.irem, 1) := by decide +kernel
theorem dX10_reduce_184 : decode cX10_reduce 184 = .ok (.iastore, 1) := by decide +kernel
theorem dX10_reduce_185 : decode cX10_reduce 185 = .ok (.iinc 4 1, 3) := by decide +kernel
theorem dX10_reduce_188 : decode cX10_reduce 188 = .ok (.goto (-46), 3) := by decide +kernel
theorem dX10_reduce_191 : decode cX10_reduce 191 = .ok (.iinc 2 1, 3) := by decide +kernel
theorem dX10_reduce_194 : decode cX10_reduce 194 = .ok (.goto (-129), 3) := by decide +kernel
theorem dX10_reduce_197 : decode cX10_reduce 197 = .ok (.iconst 0, 1) := by decide +kernel
theorem dX10_reduce_198 : decode cX10_reduce 198 = .ok (.istore_n 2, 1) := by decide +kernel
theorem dX10_reduce_199 : decode cX10_reduce 199 = .ok (.iload_n 2, 1) := by decide +kernel
theorem dX10_reduce_200 : decode cX10_reduce 200 = .ok (.aload_n 0, 1) := by decide +kernel
theorem dX10_reduce_201 : decode cX10_reduce 201 = .ok (.getfield 111, 3) := by decide +kernel
theorem dX10_reduce_204 : decode cX10_reduce 204 = .ok (.if_icmp .ge 18, 3) := by decide +kernel
theorem dX10_reduce_207 : decode cX10_reduce 207 = .ok (.aload_n 0, 1) := by decide +kernel
theorem dX10_reduce_208 : decode cX10_reduce 208 = .ok (.getfield 42, 3) := by decide +kernel
theorem dX10_reduce_211 : decode cX10_reduce 211 = .ok (.iload_n 2, 1) := by decide +kernel
theorem dX10_reduce_212 : decode cX10_reduce 212 = .ok (.iaload, 1) := by decide +kernel
theorem dX10_reduce_213 : decode cX10_reduce 213 = .ok (.ifCond .ne 9, 3) := by decide +kernel
theorem dX10_reduce_216 : decode cX10_reduce 216 = .ok (.iinc 2 1, 3) := by decide +kernel
theorem dX10_reduce_219 : decode cX10_reduce 219 = .ok (.goto (-20), 3) := by decide +kernel
theorem dX10_reduce_222 : decode cX10_reduce 222 = .ok (.iload_n 2, 1) := by decide +kernel
theorem dX10_reduce_223 : decode cX10_reduce 223 = .ok (.ireturn, 1) := by decide +kernel
theorem dX10_becomesStandard_0 : decode cX10_becomesStandard 0 = .ok (.aload_n 0, 1) := by decide +kernel
theorem dX10_becomesStandard_1 : decode cX10_becomesStandard 1 = .ok (.aload_n 0, 1) := by decide +kernel
theorem dX10_becomesStandard_2 : decode cX10_becomesStandard 2 = .ok (.getfield 42, 3) := by decide +kernel
theorem dX10_becomesStandard_5 : decode cX10_becomesStandard 5 = .ok (.iload_n 2, 1) := by decide +kernel
theorem dX10_becomesStandard_6 : decode cX10_becomesStandard 6 = .ok (.iaload, 1) := by decide +kernel
theorem dX10_becomesStandard_7 : decode cX10_becomesStandard 7 = .ok (.invokevirtual 148, 3) := by decide +kernel
theorem dX10_becomesStandard_10 : decode cX10_becomesStandard 10 = .ok (.istore_n 3, 1) := by decide +kernel
theorem dX10_becomesStandard_11 : decode cX10_becomesStandard 11 = .ok (.iconst 0, 1) := by decide +kernel
theorem dX10_becomesStandard_12 : decode cX10_becomesStandard 12 = .ok (.istore 4, 2) := by decide +kernel
theorem dX10_becomesStandard_14 : decode cX10_becomesStandard 14 = .ok (.iload 4, 2) := by decide +kernel
theorem dX10_becomesStandard_16 : decode cX10_becomesStandard 16 = .ok (.aload_n 0, 1) := by decide +kernel
theorem dX10_becomesStandard_17 : decode cX10_becomesStandard 17 = .ok (.getfield 111, 3) := by decide +kernel
theorem dX10_becomesStandard_20 : decode cX10_becomesStandard 20 = .ok (.if_icmp .ge 96, 3) := by decide +kernel
theorem dX10_becomesStandard_23 : decode cX10_becomesStandard 23 = .ok (.aload_n 0, 1) := by decide +kernel
theorem dX10_becomesStandard_24 : decode cX10_becomesStandard 24 = .ok (.getfield 33, 3) := by decide +kernel
theorem dX10_becomesStandard_27 : decode cX10_becomesStandard 27 = .ok (.bipush 8, 2) := by decide +kernel
theorem dX10_becomesStandard_29 : decode cX10_becomesStandard 29 = .ok (.aload_n 0, 1) := by decide +kernel
theorem dX10_becomesStandard_30 : decode cX10_becomesStandard 30 = .ok (.getfield 140, 3) := by decide +kernel
theorem dX10_becomesStandard_33 : decode cX10_becomesStandard 33 = .ok (.imul, 1) := by decide +kernel
theorem dX10_becomesStandard_34 : decode cX10_becomesStandard 34 = .ok (.iload 4, 2) := by decide +kernel
theorem dX10_becomesStandard_36 : decode cX10_becomesStandard 36 = .ok (.iadd, 1) := by decide +kernel
theorem dX10_becomesStandard_37 : decode cX10_becomesStandard 37 = .ok (.aload_n 0, 1) := by decide +kernel
theorem dX10_becomesStandard_38 : decode cX10_becomesStandard 38 = .ok (.getfield 42, 3) := by decide +kernel
theorem dX10_becomesStandard_41 : decode cX10_becomesStandard 41 = .ok (.iload 4, 2) := by decide +kernel
theorem dX10_becomesStandard_43 : decode cX10_becomesStandard 43 = .ok (.iaload, 1) := by decide +kernel
theorem dX10_becomesStandard_44 : decode cX10_becomesStandard 44 = .ok (.iload_n 3, 1) := by decide +kernel
theorem dX10_becomesStandard_45 : decode cX10_becomesStandard 45 = .ok (.imul, 1) := by decide +kernel
theorem dX10_becomesStandard_46 : decode cX10_becomesStandard 46 = .ok (.aload_n 0, 1) := by decide +kernel
theorem dX10_becomesStandard_47 : decode cX10_becomesStandard 47 = .ok (.getfield 7, 3) := by decide +kernel
theorem dX10_becomesStandard_50 : decode cX10_becomesStandard 50 = .ok (.irem, 1) := by decide +kernel
theorem dX10_becomesStandard_51 : decode cX10_becomesStandard 51 = .ok (.iastore, 1) := by decide +kernel
theorem dX10_becomesStandard_52 : decode cX10_becomesStandard 52 = .ok (.aload_n 0, 1) := by decide +kernel
theorem dX10_becomesStandard_53 : decode cX10_becomesStandard 53 = .ok (.getfield 36, 3) := by decide +kernel
theorem dX10_becomesStandard_56 : decode cX10_becomesStandard 56 = .ok (.bipush 8, 2) := by decide +kernel
theorem dX10_becomesStandard_58 : decode cX10_becomesStandard 58 = .ok (.aload_n 0, 1) := by decide +kernel
theorem dX10_becomesStandard_59 : decode cX10_becomesStandard 59 = .ok (.getfield 140, 3) := by decide +kernel
theorem dX10_becomesStandard_62 : decode cX10_becomesStandard 62 = .ok (.imul, 1) := by decide +kernel
theorem dX10_becomesStandard_63 : decode cX10_becomesStandard 63 = .ok (.iload 4, 2) := by decide +kernel
theorem dX10_becomesStandard_65 : decode cX10_becomesStandard 65 = .ok (.iadd, 1) := by decide +kernel
theorem dX10_becomesStandard_66 : decode cX10_becomesStandard 66 = .ok (.iload 4, 2) := by decide +kernel
theorem dX10_becomesStandard_68 : decode cX10_becomesStandard 68 = .ok (.aload_n 0, 1) := by decide +kernel
theorem dX10_becomesStandard_69 : decode cX10_becomesStandard 69 = .ok (.getfield 140, 3) := by decide +kernel
theorem dX10_becomesStandard_72 : decode cX10_becomesStandard 72 = .ok (.if_icmp .ge 23, 3) := by decide +kernel
theorem dX10_becomesStandard_75 : decode cX10_becomesStandard 75 = .ok (.aload_n 0, 1) := by decide +kernel
theorem dX10_becomesStandard_76 : decode cX10_becomesStandard 76 = .ok (.getfield 45, 3) := by decide +kernel
theorem dX10_becomesStandard_79 : decode cX10_becomesStandard 79 = .ok (.iload 4, 2) := by decide +kernel
theorem dX10_becomesStandard_81 : decode cX10_becomesStandard 81 = .ok (.iaload, 1) := by decide +kernel
theorem dX10_becomesStandard_82 : decode cX10_becomesStandard 82 = .ok (.ineg, 1) := by decide +kernel
theorem dX10_becomesStandard_83 : decode cX10_becomesStandard 83 = .ok (.iload_n 3, 1) := by decide +kernel
theorem dX10_becomesStandard_84 : decode cX10_becomesStandard 84 = .ok (.imul, 1) := by decide +kernel
theorem dX10_becomesStandard_85 : decode cX10_becomesStandard 85 = .ok (.aload_n 0, 1) := by decide +kernel
theorem dX10_becomesStandard_86 : decode cX10_becomesStandard 86 = .ok (.getfield 7, 3) := by decide +kernel
theorem dX10_becomesStandard_89 : decode cX10_becomesStandard 89 = .ok (.invokestatic 143, 3) := by decide +kernel
theorem dX10_becomesStandard_92 : decode cX10_becomesStandard 92 = .ok (.goto 17, 3) := by decide +kernel
theorem dX10_becomesStandard_95 : decode cX10_becomesStandard 95 = .ok (.iload 4, 2) := by decide +kernel
theorem dX10_becomesStandard_97 : decode cX10_becomesStandard 97 = .ok (.aload_n 0, 1) := by decide +kernel
theorem dX10_becomesStandard_98 : decode cX10_becomesStandard 98 = .ok (.getfield 140, 3) := by decide +kernel
theorem dX10_becomesStandard_101 : decode cX10_becomesStandard 101 = .ok (.if_icmp .ne 7, 3) := by decide +kernel
theorem dX10_becomesStandard_104 : decode cX10_becomesStandard 104 = .ok (.iload_n 3, 1) := by decide +kernel
theorem dX10_becomesStandard_105 : decode cX10_becomesStandard 105 = .ok (.goto 4, 3) := by decide +kernel
theorem dX10_becomesStandard_108 : decode cX10_becomesStandard 108 = .ok (.iconst 0, 1) := by decide +kernel
theorem dX10_becomesStandard_109 : decode cX10_becomesStandard 109 = .ok (.iastore, 1) := by decide +kernel
theorem dX10_becomesStandard_110 : decode cX10_becomesStandard 110 = .ok (.iinc 4 1, 3) := by decide +kernel
theorem dX10_becomesStandard_113 : decode cX10_becomesStandard 113 = .ok (.goto (-99), 3) := by decide +kernel
theorem dX10_becomesStandard_116 : decode cX10_becomesStandard 116 = .ok (.iconst 0, 1) := by decide +kernel
theorem dX10_becomesStandard_117 : decode cX10_becomesStandard 117 = .ok (.istore 4, 2) := by decide +kernel
theorem dX10_becomesStandard_119 : decode cX10_becomesStandard 119 = .ok (.iload 4, 2) := by decide +kernel
theorem dX10_becomesStandard_121 : decode cX10_becomesStandard 121 = .ok (.aload_n 0, 1) := by decide +kernel
theorem dX10_becomesStandard_122 : decode cX10_becomesStandard 122 = .ok (.getfield 140, 3) := by decide +kernel
theorem dX10_becomesStandard_125 : decode cX10_becomesStandard 125 = .ok (.if_icmp .ge 25, 3) := by decide +kernel
theorem dX10_becomesStandard_128 : decode cX10_becomesStandard 128 = .ok (.aload_n 0, 1) := by decide +kernel
theorem dX10_becomesStandard_129 : decode cX10_becomesStandard 129 = .ok (.getfield 36, 3) := by decide +kernel
theorem dX10_becomesStandard_132 : decode cX10_becomesStandard 132 = .ok (.bipush 8, 2) := by decide +kernel
theorem dX10_becomesStandard_134 : decode cX10_becomesStandard 134 = .ok (.iload 4, 2) := by decide +kernel
theorem dX10_becomesStandard_136 : decode cX10_becomesStandard 136 = .ok (.imul, 1) := by decide +kernel
theorem dX10_becomesStandard_137 : decode cX10_becomesStandard 137 = .ok (.aload_n 0, 1) := by decide +kernel
theorem dX10_becomesStandard_138 : decode cX10_becomesStandard 138 = .ok (.getfield 140, 3) := by decide +kernel
theorem dX10_becomesStandard_141 : decode cX10_becomesStandard 141 = .ok (.iadd, 1) := by decide +kernel
theorem dX10_becomesStandard_142 : decode cX10_becomesStandard 142 = .ok (.iconst 0, 1) := by decide +kernel
theorem dX10_becomesStandard_143 : decode cX10_becomesStandard 143 = .ok (.iastore, 1) := by decide +kernel
theorem dX10_becomesStandard_144 : decode cX10_becomesStandard 144 = .ok (.iinc 4 1, 3) := by decide +kernel
theorem dX10_becomesStandard_147 : decode cX10_becomesStandard 147 = .ok (.goto (-28), 3) := by decide +kernel
theorem dX10_becomesStandard_150 : decode cX10_becomesStandard 150 = .ok (.aload_n 0, 1) := by decide +kernel
theorem dX10_becomesStandard_151 : decode cX10_becomesStandard 151 = .ok (.getfield 39, 3) := by decide +kernel
theorem dX10_becomesStandard_154 : decode cX10_becomesStandard 154 = .ok (.aload_n 0, 1) := by decide +kernel
theorem dX10_becomesStandard_155 : decode cX10_becomesStandard 155 = .ok (.getfield 140, 3) := by decide +kernel
theorem dX10_becomesStandard_158 : decode cX10_becomesStandard 158 = .ok (.iload_n 2, 1) := by decide +kernel
theorem dX10_becomesStandard_159 : decode cX10_becomesStandard 159 = .ok (.iastore, 1) := by decide +kernel
theorem dX10_becomesStandard_160 : decode cX10_becomesStandard 160 = .ok (.aload_n 0, 1) := by decide +kernel
theorem dX10_becomesStandard_161 : decode cX10_becomesStandard 161 = .ok (.getfield 30, 3) := by decide +kernel
theorem dX10_becomesStandard_164 : decode cX10_becomesStandard 164 = .ok (.aload_n 0, 1) := by decide +kernel
theorem dX10_becomesStandard_165 : decode cX10_becomesStandard 165 = .ok (.getfield 140, 3) := by decide +kernel
theorem dX10_becomesStandard_168 : decode cX10_becomesStandard 168 = .ok (.iload_n 1, 1) := by decide +kernel
theorem dX10_becomesStandard_169 : decode cX10_becomesStandard 169 = .ok (.iastore, 1) := by decide +kernel
theorem dX10_becomesStandard_170 : decode cX10_becomesStandard 170 = .ok (.aload_n 0, 1) := by decide +kernel
theorem dX10_becomesStandard_171 : decode cX10_becomesStandard 171 = .ok (.getfield 26, 3) := by decide +kernel
theorem dX10_becomesStandard_174 : decode cX10_becomesStandard 174 = .ok (.iload_n 1, 1) := by decide +kernel
theorem dX10_becomesStandard_175 : decode cX10_becomesStandard 175 = .ok (.iconst 1, 1) := by decide +kernel
theorem dX10_becomesStandard_176 : decode cX10_becomesStandard 176 = .ok (.bastore, 1) := by decide +kernel
theorem dX10_becomesStandard_177 : decode cX10_becomesStandard 177 = .ok (.aload_n 0, 1) := by decide +kernel
theorem dX10_becomesStandard_178 : decode cX10_becomesStandard 178 = .ok (.dup, 1) := by decide +kernel
theorem dX10_becomesStandard_179 : decode cX10_becomesStandard 179 = .ok (.getfield 140, 3) := by decide +kernel
theorem dX10_becomesStandard_182 : decode cX10_becomesStandard 182 = .ok (.iconst 1, 1) := by decide +kernel
theorem dX10_becomesStandard_183 : decode cX10_becomesStandard 183 = .ok (.iadd, 1) := by decide +kernel
theorem dX10_becomesStandard_184 : decode cX10_becomesStandard 184 = .ok (.putfield 140, 3) := by decide +kernel
theorem dX10_becomesStandard_187 : decode cX10_becomesStandard 187 = .ok (.return_, 1) := by decide +kernel
theorem dX10_becomesCorner_0 : decode cX10_becomesCorner 0 = .ok (.aload_n 0, 1) := by decide +kernel
theorem dX10_becomesCorner_1 : decode cX10_becomesCorner 1 = .ok (.getfield 51, 3) := by decide +kernel
theorem dX10_becomesCorner_4 : decode cX10_becomesCorner 4 = .ok (.aload_n 0, 1) := by decide +kernel
theorem dX10_becomesCorner_5 : decode cX10_becomesCorner 5 = .ok (.getfield 152, 3) := by decide +kernel
theorem dX10_becomesCorner_8 : decode cX10_becomesCorner 8 = .ok (.iload_n 1, 1) := by decide +kernel
theorem dX10_becomesCorner_9 : decode cX10_becomesCorner 9 = .ok (.iastore, 1) := by decide +kernel
theorem dX10_becomesCorner_10 : decode cX10_becomesCorner 10 = .ok (.iconst 0, 1) := by decide +kernel
theorem dX10_becomesCorner_11 : decode cX10_becomesCorner 11 = .ok (.istore_n 2, 1) := by decide +kernel
theorem dX10_becomesCorner_12 : decode cX10_becomesCorner 12 = .ok (.iload_n 2, 1) := by decide +kernel
theorem dX10_becomesCorner_13 : decode cX10_becomesCorner 13 = .ok (.bipush 81, 2) := by decide +kernel
theorem dX10_becomesCorner_15 : decode cX10_becomesCorner 15 = .ok (.if_icmp .ge 38, 3) := by decide +kernel
theorem dX10_becomesCorner_18 : decode cX10_becomesCorner 18 = .ok (.aload_n 0, 1) := by decide +kernel
theorem dX10_becomesCorner_19 : decode cX10_becomesCorner 19 = .ok (.getfield 54, 3) := by decide +kernel
theorem dX10_becomesCorner_22 : decode cX10_becomesCorner 22 = .ok (.bipush 81, 2) := by decide +kernel
theorem dX10_becomesCorner_24 : decode cX10_becomesCorner 24 = .ok (.aload_n 0, 1) := by decide +kernel
theorem dX10_becomesCorner_25 : decode cX10_becomesCorner 25 = .ok (.getfield 152, 3) := by decide +kernel
theorem dX10_becomesCorner_28 : decode cX10_becomesCorner 28 = .ok (.imul, 1) := by decide +kernel
theorem dX10_becomesCorner_29 : decode cX10_becomesCorner 29 = .ok (.iload_n 2, 1) := by decide +kernel
theorem dX10_becomesCorner_30 : decode cX10_becomesCorner 30 = .ok (.iadd, 1) := by decide +kernel
theorem dX10_becomesCorner_31 : decode cX10_becomesCorner 31 = .ok (.iload_n 2, 1) := by decide +kernel
theorem dX10_becomesCorner_32 : decode cX10_becomesCorner 32 = .ok (.iload_n 1, 1) := by decide +kernel
theorem dX10_becomesCorner_33 : decode cX10_becomesCorner 33 = .ok (.if_icmp .ne 12, 3) := by decide +kernel
theorem dX10_becomesCorner_36 : decode cX10_becomesCorner 36 = .ok (.iconst 1, 1) := by decide +kernel
theorem dX10_becomesCorner_37 : decode cX10_becomesCorner 37 = .ok (.aload_n 0, 1) := by decide +kernel
theorem dX10_becomesCorner_38 : decode cX10_becomesCorner 38 = .ok (.getfield 7, 3) := by decide +kernel
theorem dX10_becomesCorner_41 : decode cX10_becomesCorner 41 = .ok (.irem, 1) := by decide +kernel
theorem dX10_becomesCorner_42 : decode cX10_becomesCorner 42 = .ok (.goto 4, 3) := by decide +kernel
theorem dX10_becomesCorner_45 : decode cX10_becomesCorner 45 = .ok (.iconst 0, 1) := by decide +kernel
theorem dX10_becomesCorner_46 : decode cX10_becomesCorner 46 = .ok (.iastore, 1) := by decide +kernel
theorem dX10_becomesCorner_47 : decode cX10_becomesCorner 47 = .ok (.iinc 2 1, 3) := by decide +kernel
theorem dX10_becomesCorner_50 : decode cX10_becomesCorner 50 = .ok (.goto (-38), 3) := by decide +kernel
theorem dX10_becomesCorner_53 : decode cX10_becomesCorner 53 = .ok (.iconst 0, 1) := by decide +kernel
theorem dX10_becomesCorner_54 : decode cX10_becomesCorner 54 = .ok (.istore_n 2, 1) := by decide +kernel
theorem dX10_becomesCorner_55 : decode cX10_becomesCorner 55 = .ok (.iload_n 2, 1) := by decide +kernel
theorem dX10_becomesCorner_56 : decode cX10_becomesCorner 56 = .ok (.aload_n 0, 1) := by decide +kernel
theorem dX10_becomesCorner_57 : decode cX10_becomesCorner 57 = .ok (.getfield 140, 3) := by decide +kernel
theorem dX10_becomesCorner_60 : decode cX10_becomesCorner 60 = .ok (.if_icmp .ge 42, 3) := by decide +kernel
theorem dX10_becomesCorner_63 : decode cX10_becomesCorner 63 = .ok (.aload_n 0, 1) := by decide +kernel
theorem dX10_becomesCorner_64 : decode cX10_becomesCorner 64 = .ok (.getfield 54, 3) := by decide +kernel
theorem dX10_becomesCorner_67 : decode cX10_becomesCorner 67 = .ok (.bipush 81, 2) := by decide +kernel
theorem dX10_becomesCorner_69 : decode cX10_becomesCorner 69 = .ok (.aload_n 0, 1) := by decide +kernel
theorem dX10_becomesCorner_70 : decode cX10_becomesCorner 70 = .ok (.getfield 152, 3) := by decide +kernel
theorem dX10_becomesCorner_73 : decode cX10_becomesCorner 73 = .ok (.imul, 1) := by decide +kernel
theorem dX10_becomesCorner_74 : decode cX10_becomesCorner 74 = .ok (.aload_n 0, 1) := by decide +kernel
theorem dX10_becomesCorner_75 : decode cX10_becomesCorner 75 = .ok (.getfield 30, 3) := by decide +kernel
theorem dX10_becomesCorner_78 : decode cX10_becomesCorner 78 = .ok (.iload_n 2, 1) := by decide +kernel
theorem dX10_becomesCorner_79 : decode cX10_becomesCorner 79 = .ok (.iaload, 1) := by decide +kernel
theorem dX10_becomesCorner_80 : decode cX10_becomesCorner 80 = .ok (.iadd, 1) := by decide +kernel
theorem dX10_becomesCorner_81 : decode cX10_becomesCorner 81 = .ok (.aload_n 0, 1) := by decide +kernel
theorem dX10_becomesCorner_82 : decode cX10_becomesCorner 82 = .ok (.getfield 45, 3) := by decide +kernel
theorem dX10_becomesCorner_85 : decode cX10_becomesCorner 85 = .ok (.iload_n 2, 1) := by decide +kernel
theorem dX10_becomesCorner_86 : decode cX10_becomesCorner 86 = .ok (.iaload, 1) := by decide +kernel
theorem dX10_becomesCorner_87 : decode cX10_becomesCorner 87 = .ok (.ineg, 1) := by decide +kernel
theorem dX10_becomesCorner_88 : decode cX10_becomesCorner 88 = .ok (.aload_n 0, 1) := by decide +kernel
theorem dX10_becomesCorner_89 : decode cX10_becomesCorner 89 = .ok (.getfield 7, 3) := by decide +kernel
theorem dX10_becomesCorner_92 : decode cX10_becomesCorner 92 = .ok (.invokestatic 143, 3) := by decide +kernel
theorem dX10_becomesCorner_95 : decode cX10_becomesCorner 95 = .ok (.iastore, 1) := by decide +kernel
theorem dX10_becomesCorner_96 : decode cX10_becomesCorner 96 = .ok (.iinc 2 1, 3) := by decide +kernel
theorem dX10_becomesCorner_99 : decode cX10_becomesCorner 99 = .ok (.goto (-44), 3) := by decide +kernel
theorem dX10_becomesCorner_102 : decode cX10_becomesCorner 102 = .ok (.aload_n 0, 1) := by decide +kernel
theorem dX10_becomesCorner_103 : decode cX10_becomesCorner 103 = .ok (.dup, 1) := by decide +kernel
theorem dX10_becomesCorner_104 : decode cX10_becomesCorner 104 = .ok (.getfield 152, 3) := by decide +kernel
theorem dX10_becomesCorner_107 : decode cX10_becomesCorner 107 = .ok (.iconst 1, 1) := by decide +kernel
theorem dX10_becomesCorner_108 : decode cX10_becomesCorner 108 = .ok (.iadd, 1) := by decide +kernel
theorem dX10_becomesCorner_109 : decode cX10_becomesCorner 109 = .ok (.putfield 152, 3) := by decide +kernel
theorem dX10_becomesCorner_112 : decode cX10_becomesCorner 112 = .ok (.return_, 1) := by decide +kernel
theorem dX10_isCorner_0 : decode cX10_isCorner 0 = .ok (.iload_n 1, 1) := by decide +kernel
theorem dX10_isCorner_1 : decode cX10_isCorner 1 = .ok (.bipush 9, 2) := by decide +kernel
theorem dX10_isCorner_3 : decode cX10_isCorner 3 = .ok (.idiv, 1) := by decide +kernel
theorem dX10_isCorner_4 : decode cX10_isCorner 4 = .ok (.ifCond .eq 15, 3) := by decide +kernel
theorem dX10_isCorner_7 : decode cX10_isCorner 7 = .ok (.aload_n 0, 1) := by decide +kernel
theorem dX10_isCorner_8 : decode cX10_isCorner 8 = .ok (.getfield 26, 3) := by decide +kernel
theorem dX10_isCorner_11 : decode cX10_isCorner 11 = .ok (.iload_n 1, 1) := by decide +kernel
theorem dX10_isCorner_12 : decode cX10_isCorner 12 = .ok (.bipush 9, 2) := by decide +kernel
theorem dX10_isCorner_14 : decode cX10_isCorner 14 = .ok (.isub, 1) := by decide +kernel
theorem dX10_isCorner_15 : decode cX10_isCorner 15 = .ok (.baload, 1) := by decide +kernel
theorem dX10_isCorner_16 : decode cX10_isCorner 16 = .ok (.ifCond .eq 25, 3) := by decide +kernel
theorem dX10_isCorner_19 : decode cX10_isCorner 19 = .ok (.iload_n 1, 1) := by decide +kernel
theorem dX10_isCorner_20 : decode cX10_isCorner 20 = .ok (.bipush 9, 2) := by decide +kernel
theorem dX10_isCorner_22 : decode cX10_isCorner 22 = .ok (.irem, 1) := by decide +kernel
theorem dX10_isCorner_23 : decode cX10_isCorner 23 = .ok (.ifCond .eq 14, 3) := by decide +kernel
theorem dX10_isCorner_26 : decode cX10_isCorner 26 = .ok (.aload_n 0, 1) := by decide +kernel
theorem dX10_isCorner_27 : decode cX10_isCorner 27 = .ok (.getfield 26, 3) := by decide +kernel
theorem dX10_isCorner_30 : decode cX10_isCorner 30 = .ok (.iload_n 1, 1) := by decide +kernel
theorem dX10_isCorner_31 : decode cX10_isCorner 31 = .ok (.iconst 1, 1) := by decide +kernel
theorem dX10_isCorner_32 : decode cX10_isCorner 32 = .ok (.isub, 1) := by decide +kernel
theorem dX10_isCorner_33 : decode cX10_isCorner 33 = .ok (.baload, 1) := by decide +kernel
theorem dX10_isCorner_34 : decode cX10_isCorner 34 = .ok (.ifCond .eq 7, 3) := by decide +kernel
theorem dX10_isCorner_37 : decode cX10_isCorner 37 = .ok (.iconst 1, 1) := by decide +kernel
theorem dX10_isCorner_38 : decode cX10_isCorner 38 = .ok (.goto 4, 3) := by decide +kernel
theorem dX10_isCorner_41 : decode cX10_isCorner 41 = .ok (.iconst 0, 1) := by decide +kernel
theorem dX10_isCorner_42 : decode cX10_isCorner 42 = .ok (.ireturn, 1) := by decide +kernel
theorem dX10_compute_0 : decode cX10_compute 0 = .ok (.aload_n 0, 1) := by decide +kernel
theorem dX10_compute_1 : decode cX10_compute 1 = .ok (.iload_n 1, 1) := by decide +kernel
theorem dX10_compute_2 : decode cX10_compute 2 = .ok (.iload_n 2, 1) := by decide +kernel
theorem dX10_compute_3 : decode cX10_compute 3 = .ok (.iload_n 3, 1) := by decide +kernel
theorem dX10_compute_4 : decode cX10_compute 4 = .ok (.invokevirtual 155, 3) := by decide +kernel
theorem dX10_compute_7 : decode cX10_compute 7 = .ok (.aload_n 0, 1) := by decide +kernel
theorem dX10_compute_8 : decode cX10_compute 8 = .ok (.iconst 0, 1) := by decide +kernel
theorem dX10_compute_9 : decode cX10_compute 9 = .ok (.putfield 140, 3) := by decide +kernel
theorem dX10_compute_12 : decode cX10_compute 12 = .ok (.aload_n 0, 1) := by decide +kernel
theorem dX10_compute_13 : decode cX10_compute 13 = .ok (.iconst 0, 1) := by decide +kernel
theorem dX10_compute_14 : decode cX10_compute 14 = .ok (.putfield 152, 3) := by decide +kernel
theorem dX10_compute_17 : decode cX10_compute 17 = .ok (.iconst 0, 1) := by decide +kernel
theorem dX10_compute_18 : decode cX10_compute 18 = .ok (.istore 4, 2) := by decide +kernel
theorem dX10_compute_20 : decode cX10_compute 20 = .ok (.iload 4, 2) := by decide +kernel
theorem dX10_compute_22 : decode cX10_compute 22 = .ok (.bipush 81, 2) := by decide +kernel
theorem dX10_compute_24 : decode cX10_compute 24 = .ok (.if_icmp .ge 17, 3) := by decide +kernel
theorem dX10_compute_27 : decode cX10_compute 27 = .ok (.aload_n 0, 1) := by decide +kernel
theorem dX10_compute_28 : decode cX10_compute 28 = .ok (.getfield 26, 3) := by decide +kernel
theorem dX10_compute_31 : decode cX10_compute 31 = .ok (.iload 4, 2) := by decide +kernel
theorem dX10_compute_33 : decode cX10_compute 33 = .ok (.iconst 0, 1) := by decide +kernel
theorem dX10_compute_34 : decode cX10_compute 34 = .ok (.bastore, 1) := by decide +kernel
theorem dX10_compute_35 : decode cX10_compute 35 = .ok (.iinc 4 1, 3) := by decide +kernel
theorem dX10_compute_38 : decode cX10_compute 38 = .ok (.goto (-18), 3) := by decide +kernel
theorem dX10_compute_41 : decode cX10_compute 41 = .ok (.iconst 0, 1) := by decide +kernel
theorem dX10_compute_42 : decode cX10_compute 42 = .ok (.istore 4, 2) := by decide +kernel
theorem dX10_compute_44 : decode cX10_compute 44 = .ok (.iload 4, 2) := by decide +kernel
theorem dX10_compute_46 : decode cX10_compute 46 = .ok (.bipush 81, 2) := by decide +kernel
theorem dX10_compute_48 : decode cX10_compute 48 = .ok (.if_icmp .ge 72, 3) := by decide +kernel
theorem dX10_compute_51 : decode cX10_compute 51 = .ok (.aload_n 0, 1) := by decide +kernel
theorem dX10_compute_52 : decode cX10_compute 52 = .ok (.aload_n 0, 1) := by decide +kernel
theorem dX10_compute_53 : decode cX10_compute 53 = .ok (.getfield 23, 3) := by decide +kernel
theorem dX10_compute_56 : decode cX10_compute 56 = .ok (.iload 4, 2) := by decide +kernel
theorem dX10_compute_58 : decode cX10_compute 58 = .ok (.iaload, 1) := by decide +kernel
theorem dX10_compute_59 : decode cX10_compute 59 = .ok (.invokevirtual 159, 3) := by decide +kernel
theorem dX10_compute_62 : decode cX10_compute 62 = .ok (.istore 5, 2) := by decide +kernel
theorem dX10_compute_64 : decode cX10_compute 64 = .ok (.iload 5, 2) := by decide +kernel
theorem dX10_compute_66 : decode cX10_compute 66 = .ok (.aload_n 0, 1) := by decide +kernel
theorem dX10_compute_67 : decode cX10_compute 67 = .ok (.getfield 111, 3) := by decide +kernel
theorem dX10_compute_70 : decode cX10_compute 70 = .ok (.if_icmp .ge 19, 3) := by decide +kernel
theorem dX10_compute_73 : decode cX10_compute 73 = .ok (.aload_n 0, 1) := by decide +kernel
theorem dX10_compute_74 : decode cX10_compute 74 = .ok (.aload_n 0, 1) := by decide +kernel
theorem dX10_compute_75 : decode cX10_compute 75 = .ok (.getfield 23, 3) := by decide +kernel
theorem dX10_compute_78 : decode cX10_compute 78 = .ok (.iload 4, 2) := by decide +kernel
theorem dX10_compute_80 : decode cX10_compute 80 = .ok (.iaload, 1) := by decide +kernel
theorem dX10_compute_81 : decode cX10_compute 81 = .ok (.iload 5, 2) := by decide +kernel
theorem dX10_compute_83 : decode cX10_compute 83 = .ok (.invokevirtual 162, 3) := by decide +kernel
theorem dX10_compute_86 : decode cX10_compute 86 = .ok (.goto 28, 3) := by decide +kernel
theorem dX10_compute_89 : decode cX10_compute 89 = .ok (.aload_n 0, 1) := by decide +kernel
theorem dX10_compute_90 : decode cX10_compute 90 = .ok (.aload_n 0, 1) := by decide +kernel
theorem dX10_compute_91 : decode cX10_compute 91 = .ok (.getfield 23, 3) := by decide +kernel
theorem dX10_compute_94 : decode cX10_compute 94 = .ok (.iload 4, 2) := by decide +kernel
theorem dX10_compute_96 : decode cX10_compute 96 = .ok (.iaload, 1) := by decide +kernel
theorem dX10_compute_97 : decode cX10_compute 97 = .ok (.invokevirtual 166, 3) := by decide +kernel
theorem dX10_compute_100 : decode cX10_compute 100 = .ok (.ifCond .eq 14, 3) := by decide +kernel
theorem dX10_compute_103 : decode cX10_compute 103 = .ok (.aload_n 0, 1) := by decide +kernel
theorem dX10_compute_104 : decode cX10_compute 104 = .ok (.aload_n 0, 1) := by decide +kernel
theorem dX10_compute_105 : decode cX10_compute 105 = .ok (.getfield 23, 3) := by decide +kernel
theorem dX10_compute_108 : decode cX10_compute 108 = .ok (.iload 4, 2) := by decide +kernel
theorem dX10_compute_110 : decode cX10_compute 110 = .ok (.iaload, 1) := by decide +kernel
theorem dX10_compute_111 : decode cX10_compute 111 = .ok (.invokevirtual 169, 3) := by decide +kernel
theorem dX10_compute_114 : decode cX10_compute 114 = .ok (.iinc 4 1, 3) := by decide +kernel
theorem dX10_compute_117 : decode cX10_compute 117 = .ok (.goto (-73), 3) := by decide +kernel
theorem dX10_compute_120 : decode cX10_compute 120 = .ok (.iconst 0, 1) := by decide +kernel
theorem dX10_compute_121 : decode cX10_compute 121 = .ok (.istore 4, 2) := by decide +kernel
theorem dX10_compute_123 : decode cX10_compute 123 = .ok (.iload 4, 2) := by decide +kernel
theorem dX10_compute_125 : decode cX10_compute 125 = .ok (.bipush 9, 2) := by decide +kernel
theorem dX10_compute_127 : decode cX10_compute 127 = .ok (.if_icmp .ge 64, 3) := by decide +kernel
theorem dX10_compute_130 : decode cX10_compute 130 = .ok (.aload_n 0, 1) := by decide +kernel
theorem dX10_compute_131 : decode cX10_compute 131 = .ok (.getfield 48, 3) := by decide +kernel
theorem dX10_compute_134 : decode cX10_compute 134 = .ok (.iload 4, 2) := by decide +kernel
theorem dX10_compute_136 : decode cX10_compute 136 = .ok (.iconst 0, 1) := by decide +kernel
theorem dX10_compute_137 : decode cX10_compute 137 = .ok (.iastore, 1) := by decide +kernel
theorem dX10_compute_138 : decode cX10_compute 138 = .ok (.iconst 0, 1) := by decide +kernel
theorem dX10_compute_139 : decode cX10_compute 139 = .ok (.istore 5, 2) := by decide +kernel
theorem dX10_compute_141 : decode cX10_compute 141 = .ok (.iload 5, 2) := by decide +kernel
theorem dX10_compute_143 : decode cX10_compute 143 = .ok (.bipush 9, 2) := by decide +kernel
theorem dX10_compute_145 : decode cX10_compute 145 = .ok (.if_icmp .ge 40, 3) := by decide +kernel
theorem dX10_compute_148 : decode cX10_compute 148 = .ok (.aload_n 0, 1) := by decide +kernel
theorem dX10_compute_149 : decode cX10_compute 149 = .ok (.getfield 48, 3) := by decide +kernel
theorem dX10_compute_152 : decode cX10_compute 152 = .ok (.iload 4, 2) := by decide +kernel
theorem dX10_compute_154 : decode cX10_compute 154 = .ok (.dup2, 1) := by decide +kernel
theorem dX10_compute_155 : decode cX10_compute 155 = .ok (.iaload, 1) := by decide +kernel
theorem dX10_compute_156 : decode cX10_compute 156 = .ok (.aload_n 0, 1) := by decide +kernel
theorem dX10_compute_157 : decode cX10_compute 157 = .ok (.getfield 26, 3) := by decide +kernel
theorem dX10_compute_160 : decode cX10_compute 160 = .ok (.bipush 9, 2) := by decide +kernel
theorem dX10_compute_162 : decode cX10_compute 162 = .ok (.iload 4, 2) := by decide +kernel
theorem dX10_compute_164 : decode cX10_compute 164 = .ok (.imul, 1) := by decide +kernel
theorem dX10_compute_165 : decode cX10_compute 165 = .ok (.iload 5, 2) := by decide +kernel
theorem dX10_compute_167 : decode cX10_compute 167 = .ok (.iadd, 1) := by decide +kernel
theorem dX10_compute_168 : decode cX10_compute 168 = .ok (.baload, 1) := by decide +kernel
theorem dX10_compute_169 : decode cX10_compute 169 = .ok (.ifCond .eq 7, 3) := by decide +kernel
theorem dX10_compute_172 : decode cX10_compute 172 = .ok (.iconst 1, 1) := by decide +kernel
theorem dX10_compute_173 : decode cX10_compute 173 = .ok (.goto 4, 3) := by decide +kernel
theorem dX10_compute_176 : decode cX10_compute 176 = .ok (.iconst 0, 1) := by decide +kernel
theorem dX10_compute_177 : decode cX10_compute 177 = .ok (.iadd, 1) := by decide +kernel
theorem dX10_compute_178 : decode cX10_compute 178 = .ok (.iastore, 1) := by decide +kernel
theorem dX10_compute_179 : decode cX10_compute 179 = .ok (.iinc 5 1, 3) := by decide +kernel
theorem dX10_compute_182 : decode cX10_compute 182 = .ok (.goto (-41), 3) := by decide +kernel
theorem dX10_compute_185 : decode cX10_compute 185 = .ok (.iinc 4 1, 3) := by decide +kernel
theorem dX10_compute_188 : decode cX10_compute 188 = .ok (.goto (-65), 3) := by decide +kernel
theorem dX10_compute_191 : decode cX10_compute 191 = .ok (.aload_n 0, 1) := by decide +kernel
theorem dX10_compute_192 : decode cX10_compute 192 = .ok (.invokevirtual 173, 3) := by decide +kernel
theorem dX10_compute_195 : decode cX10_compute 195 = .ok (.return_, 1) := by decide +kernel
theorem dX10_sortCorners_0 : decode cX10_sortCorners 0 = .ok (.iconst 1, 1) := by decide +kernel
theorem dX10_sortCorners_1 : decode cX10_sortCorners 1 = .ok (.istore_n 1, 1) := by decide +kernel
theorem dX10_sortCorners_2 : decode cX10_sortCorners 2 = .ok (.iload_n 1, 1) := by decide +kernel
theorem dX10_sortCorners_3 : decode cX10_sortCorners 3 = .ok (.aload_n 0, 1) := by decide +kernel
theorem dX10_sortCorners_4 : decode cX10_sortCorners 4 = .ok (.getfield 152, 3) := by decide +kernel
theorem dX10_sortCorners_7 : decode cX10_sortCorners 7 = .ok (.if_icmp .ge 146, 3) := by decide +kernel
theorem dX10_sortCorners_10 : decode cX10_sortCorners 10 = .ok (.iload_n 1, 1) := by decide +kernel
theorem dX10_sortCorners_11 : decode cX10_sortCorners 11 = .ok (.istore_n 2, 1) := by decide +kernel
theorem dX10_sortCorners_12 : decode cX10_sortCorners 12 = .ok (.iload_n 2, 1) := by decide +kernel
theorem dX10_sortCorners_13 : decode cX10_sortCorners 13 = .ok (.ifCond .le 134, 3) := by decide +kernel
theorem dX10_sortCorners_16 : decode cX10_sortCorners 16 = .ok (.aload_n 0, 1) := by decide +kernel
theorem dX10_sortCorners_17 : decode cX10_sortCorners 17 = .ok (.getfield 51, 3) := by decide +kernel
theorem dX10_sortCorners_20 : decode cX10_sortCorners 20 = .ok (.iload_n 2, 1) := by decide +kernel
theorem dX10_sortCorners_21 : decode cX10_sortCorners 21 = .ok (.iaload, 1) := by decide +kernel
theorem dX10_sortCorners_22 : decode cX10_sortCorners 22 = .ok (.bipush 9, 2) := by decide +kernel
theorem dX10_sortCorners_24 : decode cX10_sortCorners 24 = .ok (.idiv, 1) := by decide +kernel
theorem dX10_sortCorners_25 : decode cX10_sortCorners 25 = .ok (.aload_n 0, 1) := by decide +kernel
theorem dX10_sortCorners_26 : decode cX10_sortCorners 26 = .ok (.getfield 51, 3) := by decide +kernel
theorem dX10_sortCorners_29 : decode cX10_sortCorners 29 = .ok (.iload_n 2, 1) := by decide +kernel
theorem dX10_sortCorners_30 : decode cX10_sortCorners 30 = .ok (.iconst 1, 1) := by decide +kernel
theorem dX10_sortCorners_31 : decode cX10_sortCorners 31 = .ok (.isub, 1) := by decide +kernel
theorem dX10_sortCorners_32 : decode cX10_sortCorners 32 = .ok (.iaload, 1) := by decide +kernel
theorem dX10_sortCorners_33 : decode cX10_sortCorners 33 = .ok (.bipush 9, 2) := by decide +kernel
theorem dX10_sortCorners_35 : decode cX10_sortCorners 35 = .ok (.idiv, 1) := by decide +kernel
theorem dX10_sortCorners_36 : decode cX10_sortCorners 36 = .ok (.if_icmp .ge 111, 3) := by decide +kernel
theorem dX10_sortCorners_39 : decode cX10_sortCorners 39 = .ok (.aload_n 0, 1) := by decide +kernel
theorem dX10_sortCorners_40 : decode cX10_sortCorners 40 = .ok (.getfield 51, 3) := by decide +kernel
theorem dX10_sortCorners_43 : decode cX10_sortCorners 43 = .ok (.iload_n 2, 1) := by decide +kernel
theorem dX10_sortCorners_44 : decode cX10_sortCorners 44 = .ok (.iaload, 1) := by decide +kernel
theorem dX10_sortCorners_45 : decode cX10_sortCorners 45 = .ok (.istore_n 3, 1) := by decide +kernel
theorem dX10_sortCorners_46 : decode cX10_sortCorners 46 = .ok (.aload_n 0, 1) := by decide +kernel
theorem dX10_sortCorners_47 : decode cX10_sortCorners 47 = .ok (.getfield 51, 3) := by decide +kernel
theorem dX10_sortCorners_50 : decode cX10_sortCorners 50 = .ok (.iload_n 2, 1) := by decide +kernel
theorem dX10_sortCorners_51 : decode cX10_sortCorners 51 = .ok (.aload_n 0, 1) := by decide +kernel
theorem dX10_sortCorners_52 : decode cX10_sortCorners 52 = .ok (.getfield 51, 3) := by decide +kernel
theorem dX10_sortCorners_55 : decode cX10_sortCorners 55 = .ok (.iload_n 2, 1) := by decide +kernel
theorem dX10_sortCorners_56 : decode cX10_sortCorners 56 = .ok (.iconst 1, 1) := by decide +kernel
theorem dX10_sortCorners_57 : decode cX10_sortCorners 57 = .ok (.isub, 1) := by decide +kernel
theorem dX10_sortCorners_58 : decode cX10_sortCorners 58 = .ok (.iaload, 1) := by decide +kernel
theorem dX10_sortCorners_59 : decode cX10_sortCorners 59 = .ok (.iastore, 1) := by decide +kernel
theorem dX10_sortCorners_60 : decode cX10_sortCorners 60 = .ok (.aload_n 0, 1) := by decide +kernel
theorem dX10_sortCorners_61 : decode cX10_sortCorners 61 = .ok (.getfield 51, 3) := by decide +kernel
theorem dX10_sortCorners_64 : decode cX10_sortCorners 64 = .ok (.iload_n 2, 1) := by decide +kernel
theorem dX10_sortCorners_65 : decode cX10_sortCorners 65 = .ok (.iconst 1, 1) := by decide +kernel
theorem dX10_sortCorners_66 : decode cX10_sortCorners 66 = .ok (.isub, 1) := by decide +kernel
theorem dX10_sortCorners_67 : decode cX10_sortCorners 67 = .ok (.iload_n 3, 1) := by decide +kernel
theorem dX10_sortCorners_68 : decode cX10_sortCorners 68 = .ok (.iastore, 1) := by decide +kernel
theorem dX10_sortCorners_69 : decode cX10_sortCorners 69 = .ok (.iconst 0, 1) := by decide +kernel
theorem dX10_sortCorners_70 : decode cX10_sortCorners 70 = .ok (.istore 4, 2) := by decide +kernel
theorem dX10_sortCorners_72 : decode cX10_sortCorners 72 = .ok (.iload 4, 2) := by decide +kernel
theorem dX10_sortCorners_74 : decode cX10_sortCorners 74 = .ok (.bipush 81, 2) := by decide +kernel
theorem dX10_sortCorners_76 : decode cX10_sortCorners 76 = .ok (.if_icmp .ge 65, 3) := by decide +kernel
theorem dX10_sortCorners_79 : decode cX10_sortCorners 79 = .ok (.aload_n 0, 1) := by decide +kernel
theorem dX10_sortCorners_80 : decode cX10_sortCorners 80 = .ok (.getfield 54, 3) := by decide +kernel
theorem dX10_sortCorners_83 : decode cX10_sortCorners 83 = .ok (.bipush 81, 2) := by decide +kernel
theorem dX10_sortCorners_85 : decode cX10_sortCorners 85 = .ok (.iload_n 2, 1) := by decide +kernel
theorem dX10_sortCorners_86 : decode cX10_sortCorners 86 = .ok (.imul, 1) := by decide +kernel
theorem dX10_sortCorners_87 : decode cX10_sortCorners 87 = .ok (.iload 4, 2) := by decide +kernel
theorem dX10_sortCorners_89 : decode cX10_sortCorners 89 = .ok (.iadd, 1) := by decide +kernel
theorem dX10_sortCorners_90 : decode cX10_sortCorners 90 = .ok (.iaload, 1) := by decide +kernel
theorem dX10_sortCorners_91 : decode cX10_sortCorners 91 = .ok (.istore 5, 2) := by decide +kernel
theorem dX10_sortCorners_93 : decode cX10_sortCorners 93 = .ok (.aload_n 0, 1) := by decide +kernel
theorem dX10_sortCorners_94 : decode cX10_sortCorners 94 = .ok (.getfield 54, 3) := by decide +kernel
theorem dX10_sortCorners_97 : decode cX10_sortCorners 97 = .ok (.bipush 81, 2) := by decide +kernel
theorem dX10_sortCorners_99 : decode cX10_sortCorners 99 = .ok (.iload_n 2, 1) := by decide +kernel
theorem dX10_sortCorners_100 : decode cX10_sortCorners 100 = .ok (.imul, 1) := by decide +kernel
theorem dX10_sortCorners_101 : decode cX10_sortCorners 101 = .ok (.iload 4, 2) := by decide +kernel
theorem dX10_sortCorners_103 : decode cX10_sortCorners 103 = .ok (.iadd, 1) := by decide +kernel
theorem dX10_sortCorners_104 : decode cX10_sortCorners 104 = .ok (.aload_n 0, 1) := by decide +kernel
theorem dX10_sortCorners_105 : decode cX10_sortCorners 105 = .ok (.getfield 54, 3) := by decide +kernel
theorem dX10_sortCorners_108 : decode cX10_sortCorners 108 = .ok (.bipush 81, 2) := by decide +kernel
theorem dX10_sortCorners_110 : decode cX10_sortCorners 110 = .ok (.iload_n 2, 1) := by decide +kernel
theorem dX10_sortCorners_111 : decode cX10_sortCorners 111 = .ok (.iconst 1, 1) := by decide +kernel
theorem dX10_sortCorners_112 : decode cX10_sortCorners 112 = .ok (.isub, 1) := by decide +kernel
theorem dX10_sortCorners_113 : decode cX10_sortCorners 113 = .ok (.imul, 1) := by decide +kernel
theorem dX10_sortCorners_114 : decode cX10_sortCorners 114 = .ok (.iload 4, 2) := by decide +kernel
theorem dX10_sortCorners_116 : decode cX10_sortCorners 116 = .ok (.iadd, 1) := by decide +kernel
theorem dX10_sortCorners_117 : decode cX10_sortCorners 117 = .ok (.iaload, 1) := by decide +kernel
theorem dX10_sortCorners_118 : decode cX10_sortCorners 118 = .ok (.iastore, 1) := by decide +kernel
theorem dX10_sortCorners_119 : decode cX10_sortCorners 119 = .ok (.aload_n 0, 1) := by decide +kernel
theorem dX10_sortCorners_120 : decode cX10_sortCorners 120 = .ok (.getfield 54, 3) := by decide +kernel
theorem dX10_sortCorners_123 : decode cX10_sortCorners 123 = .ok (.bipush 81, 2) := by decide +kernel
theorem dX10_sortCorners_125 : decode cX10_sortCorners 125 = .ok (.iload_n 2, 1) := by decide +kernel
theorem dX10_sortCorners_126 : decode cX10_sortCorners 126 = .ok (.iconst 1, 1) := by decide +kernel
theorem dX10_sortCorners_127 : decode cX10_sortCorners 127 = .ok (.isub, 1) := by decide +kernel
theorem dX10_sortCorners_128 : decode cX10_sortCorners 128 = .ok (.imul, 1) := by decide +kernel
theorem dX10_sortCorners_129 : decode cX10_sortCorners 129 = .ok (.iload 4, 2) := by decide +kernel
theorem dX10_sortCorners_131 : decode cX10_sortCorners 131 = .ok (.iadd, 1) := by decide +kernel
theorem dX10_sortCorners_132 : decode cX10_sortCorners 132 = .ok (.iload 5, 2) := by decide +kernel
theorem dX10_sortCorners_134 : decode cX10_sortCorners 134 = .ok (.iastore, 1) := by decide +kernel
theorem dX10_sortCorners_135 : decode cX10_sortCorners 135 = .ok (.iinc 4 1, 3) := by decide +kernel
theorem dX10_sortCorners_138 : decode cX10_sortCorners 138 = .ok (.goto (-66), 3) := by decide +kernel
theorem dX10_sortCorners_141 : decode cX10_sortCorners 141 = .ok (.iinc 2 (-1), 3) := by decide +kernel
theorem dX10_sortCorners_144 : decode cX10_sortCorners 144 = .ok (.goto (-132), 3) := by decide +kernel
theorem dX10_sortCorners_147 : decode cX10_sortCorners 147 = .ok (.iinc 1 1, 3) := by decide +kernel
theorem dX10_sortCorners_150 : decode cX10_sortCorners 150 = .ok (.goto (-148), 3) := by decide +kernel
theorem dX10_sortCorners_153 : decode cX10_sortCorners 153 = .ok (.return_, 1) := by decide +kernel
theorem dX10_isWeight_0 : decode cX10_isWeight 0 = .ok (.iload_n 0, 1) := by decide +kernel
theorem dX10_isWeight_1 : decode cX10_isWeight 1 = .ok (.iconst 0, 1) := by decide +kernel
theorem dX10_isWeight_2 : decode cX10_isWeight 2 = .ok (.bipush 99, 2) := by decide +kernel
theorem dX10_isWeight_4 : decode cX10_isWeight 4 = .ok (.invokestatic 114, 3) := by decide +kernel
theorem dX10_isWeight_7 : decode cX10_isWeight 7 = .ok (.ifCond .eq 23, 3) := by decide +kernel
theorem dX10_isWeight_10 : decode cX10_isWeight 10 = .ok (.iload_n 1, 1) := by decide +kernel
theorem dX10_isWeight_11 : decode cX10_isWeight 11 = .ok (.iconst 0, 1) := by decide +kernel
theorem dX10_isWeight_12 : decode cX10_isWeight 12 = .ok (.bipush 99, 2) := by decide +kernel
theorem dX10_isWeight_14 : decode cX10_isWeight 14 = .ok (.invokestatic 114, 3) := by decide +kernel
theorem dX10_isWeight_17 : decode cX10_isWeight 17 = .ok (.ifCond .eq 13, 3) := by decide +kernel
theorem dX10_isWeight_20 : decode cX10_isWeight 20 = .ok (.iload_n 0, 1) := by decide +kernel
theorem dX10_isWeight_21 : decode cX10_isWeight 21 = .ok (.iload_n 1, 1) := by decide +kernel
theorem dX10_isWeight_22 : decode cX10_isWeight 22 = .ok (.iadd, 1) := by decide +kernel
theorem dX10_isWeight_23 : decode cX10_isWeight 23 = .ok (.ifCond .le 7, 3) := by decide +kernel
theorem dX10_isWeight_26 : decode cX10_isWeight 26 = .ok (.iconst 1, 1) := by decide +kernel
theorem dX10_isWeight_27 : decode cX10_isWeight 27 = .ok (.goto 4, 3) := by decide +kernel
theorem dX10_isWeight_30 : decode cX10_isWeight 30 = .ok (.iconst 0, 1) := by decide +kernel
theorem dX10_isWeight_31 : decode cX10_isWeight 31 = .ok (.ireturn, 1) := by decide +kernel
theorem dX10_columnHeight_0 : decode cX10_columnHeight 0 = .ok (.iload 4, 2) := by decide +kernel
theorem dX10_columnHeight_2 : decode cX10_columnHeight 2 = .ok (.invokestatic 176, 3) := by decide +kernel
theorem dX10_columnHeight_5 : decode cX10_columnHeight 5 = .ok (.ifCond .ne 5, 3) := by decide +kernel
theorem dX10_columnHeight_8 : decode cX10_columnHeight 8 = .ok (.iconst (-1), 1) := by decide +kernel
theorem dX10_columnHeight_9 : decode cX10_columnHeight 9 = .ok (.ireturn, 1) := by decide +kernel
theorem dX10_columnHeight_10 : decode cX10_columnHeight 10 = .ok (.iload_n 1, 1) := by decide +kernel
theorem dX10_columnHeight_11 : decode cX10_columnHeight 11 = .ok (.iload_n 2, 1) := by decide +kernel
theorem dX10_columnHeight_12 : decode cX10_columnHeight 12 = .ok (.invokestatic 179, 3) := by decide +kernel
theorem dX10_columnHeight_15 : decode cX10_columnHeight 15 = .ok (.ifCond .eq 12, 3) := by decide +kernel
theorem dX10_columnHeight_18 : decode cX10_columnHeight 18 = .ok (.iload_n 3, 1) := by decide +kernel
theorem dX10_columnHeight_19 : decode cX10_columnHeight 19 = .ok (.iconst 0, 1) := by decide +kernel
theorem dX10_columnHeight_20 : decode cX10_columnHeight 20 = .ok (.iconst 1, 1) := by decide +kernel
theorem dX10_columnHeight_21 : decode cX10_columnHeight 21 = .ok (.invokestatic 114, 3) := by decide +kernel
theorem dX10_columnHeight_24 : decode cX10_columnHeight 24 = .ok (.ifCond .ne 6, 3) := by decide +kernel
theorem dX10_columnHeight_27 : decode cX10_columnHeight 27 = .ok (.bipush (-2), 2) := by decide +kernel
theorem dX10_columnHeight_29 : decode cX10_columnHeight 29 = .ok (.ireturn, 1) := by decide +kernel
theorem dX10_columnHeight_30 : decode cX10_columnHeight 30 = .ok (.aload_n 0, 1) := by decide +kernel
theorem dX10_columnHeight_31 : decode cX10_columnHeight 31 = .ok (.iload_n 1, 1) := by decide +kernel
theorem dX10_columnHeight_32 : decode cX10_columnHeight 32 = .ok (.iload_n 2, 1) := by decide +kernel
theorem dX10_columnHeight_33 : decode cX10_columnHeight 33 = .ok (.iload_n 3, 1) := by decide +kernel
theorem dX10_columnHeight_34 : decode cX10_columnHeight 34 = .ok (.invokevirtual 183, 3) := by decide +kernel
theorem dX10_columnHeight_37 : decode cX10_columnHeight 37 = .ok (.aload_n 0, 1) := by decide +kernel
theorem dX10_columnHeight_38 : decode cX10_columnHeight 38 = .ok (.getfield 48, 3) := by decide +kernel
theorem dX10_columnHeight_41 : decode cX10_columnHeight 41 = .ok (.iload 4, 2) := by decide +kernel
theorem dX10_columnHeight_43 : decode cX10_columnHeight 43 = .ok (.iaload, 1) := by decide +kernel
theorem dX10_columnHeight_44 : decode cX10_columnHeight 44 = .ok (.ireturn, 1) := by decide +kernel
theorem dX10_cornerCount_0 : decode cX10_cornerCount 0 = .ok (.iload_n 1, 1) := by decide +kernel
theorem dX10_cornerCount_1 : decode cX10_cornerCount 1 = .ok (.iload_n 2, 1) := by decide +kernel
theorem dX10_cornerCount_2 : decode cX10_cornerCount 2 = .ok (.invokestatic 179, 3) := by decide +kernel
theorem dX10_cornerCount_5 : decode cX10_cornerCount 5 = .ok (.ifCond .eq 12, 3) := by decide +kernel
theorem dX10_cornerCount_8 : decode cX10_cornerCount 8 = .ok (.iload_n 3, 1) := by decide +kernel
theorem dX10_cornerCount_9 : decode cX10_cornerCount 9 = .ok (.iconst 0, 1) := by decide +kernel
theorem dX10_cornerCount_10 : decode cX10_cornerCount 10 = .ok (.iconst 1, 1) := by decide +kernel
theorem dX10_cornerCount_11 : decode cX10_cornerCount 11 = .ok (.invokestatic 114, 3) := by decide +kernel
theorem dX10_cornerCount_14 : decode cX10_cornerCount 14 = .ok (.ifCond .ne 6, 3) := by decide +kernel
theorem dX10_cornerCount_17 : decode cX10_cornerCount 17 = .ok (.bipush (-2), 2) := by decide +kernel
theorem dX10_cornerCount_19 : decode cX10_cornerCount 19 = .ok (.ireturn, 1) := by decide +kernel
theorem dX10_cornerCount_20 : decode cX10_cornerCount 20 = .ok (.aload_n 0, 1) := by decide +kernel
theorem dX10_cornerCount_21 : decode cX10_cornerCount 21 = .ok (.iload_n 1, 1) := by decide +kernel
theorem dX10_cornerCount_22 : decode cX10_cornerCount 22 = .ok (.iload_n 2, 1) := by decide +kernel
theorem dX10_cornerCount_23 : decode cX10_cornerCount 23 = .ok (.iload_n 3, 1) := by decide +kernel
theorem dX10_cornerCount_24 : decode cX10_cornerCount 24 = .ok (.invokevirtual 183, 3) := by decide +kernel
theorem dX10_cornerCount_27 : decode cX10_cornerCount 27 = .ok (.aload_n 0, 1) := by decide +kernel
theorem dX10_cornerCount_28 : decode cX10_cornerCount 28 = .ok (.getfield 152, 3) := by decide +kernel
theorem dX10_cornerCount_31 : decode cX10_cornerCount 31 = .ok (.ireturn, 1) := by decide +kernel
theorem dX10_exponents_0 : decode cX10_exponents 0 = .ok (.bipush 10, 2) := by decide +kernel
theorem dX10_exponents_2 : decode cX10_exponents 2 = .ok (.iload_n 0, 1) := by decide +kernel
theorem dX10_exponents_3 : decode cX10_exponents 3 = .ok (.bipush 9, 2) := by decide +kernel
theorem dX10_exponents_5 : decode cX10_exponents 5 = .ok (.idiv, 1) := by decide +kernel
theorem dX10_exponents_6 : decode cX10_exponents 6 = .ok (.imul, 1) := by decide +kernel
theorem dX10_exponents_7 : decode cX10_exponents 7 = .ok (.iload_n 0, 1) := by decide +kernel
theorem dX10_exponents_8 : decode cX10_exponents 8 = .ok (.bipush 9, 2) := by decide +kernel
theorem dX10_exponents_10 : decode cX10_exponents 10 = .ok (.irem, 1) := by decide +kernel
theorem dX10_exponents_11 : decode cX10_exponents 11 = .ok (.iadd, 1) := by decide +kernel
theorem dX10_exponents_12 : decode cX10_exponents 12 = .ok (.ireturn, 1) := by decide +kernel
theorem dX10_corner_0 : decode cX10_corner 0 = .ok (.iload_n 1, 1) := by decide +kernel
theorem dX10_corner_1 : decode cX10_corner 1 = .ok (.iload_n 2, 1) := by decide +kernel
theorem dX10_corner_2 : decode cX10_corner 2 = .ok (.invokestatic 179, 3) := by decide +kernel
theorem dX10_corner_5 : decode cX10_corner 5 = .ok (.ifCond .eq 12, 3) := by decide +kernel
theorem dX10_corner_8 : decode cX10_corner 8 = .ok (.iload_n 3, 1) := by decide +kernel
theorem dX10_corner_9 : decode cX10_corner 9 = .ok (.iconst 0, 1) := by decide +kernel
theorem dX10_corner_10 : decode cX10_corner 10 = .ok (.iconst 1, 1) := by decide +kernel
theorem dX10_corner_11 : decode cX10_corner 11 = .ok (.invokestatic 114, 3) := by decide +kernel
theorem dX10_corner_14 : decode cX10_corner 14 = .ok (.ifCond .ne 6, 3) := by decide +kernel
theorem dX10_corner_17 : decode cX10_corner 17 = .ok (.bipush (-2), 2) := by decide +kernel
theorem dX10_corner_19 : decode cX10_corner 19 = .ok (.ireturn, 1) := by decide +kernel
theorem dX10_corner_20 : decode cX10_corner 20 = .ok (.aload_n 0, 1) := by decide +kernel
theorem dX10_corner_21 : decode cX10_corner 21 = .ok (.iload_n 1, 1) := by decide +kernel
theorem dX10_corner_22 : decode cX10_corner 22 = .ok (.iload_n 2, 1) := by decide +kernel
theorem dX10_corner_23 : decode cX10_corner 23 = .ok (.iload_n 3, 1) := by decide +kernel
theorem dX10_corner_24 : decode cX10_corner 24 = .ok (.invokevirtual 183, 3) := by decide +kernel
theorem dX10_corner_27 : decode cX10_corner 27 = .ok (.iload 4, 2) := by decide +kernel
theorem dX10_corner_29 : decode cX10_corner 29 = .ok (.iconst 0, 1) := by decide +kernel
theorem dX10_corner_30 : decode cX10_corner 30 = .ok (.aload_n 0, 1) := by decide +kernel
theorem dX10_corner_31 : decode cX10_corner 31 = .ok (.getfield 152, 3) := by decide +kernel
theorem dX10_corner_34 : decode cX10_corner 34 = .ok (.iconst 1, 1) := by decide +kernel
theorem dX10_corner_35 : decode cX10_corner 35 = .ok (.isub, 1) := by decide +kernel
theorem dX10_corner_36 : decode cX10_corner 36 = .ok (.invokestatic 114, 3) := by decide +kernel
theorem dX10_corner_39 : decode cX10_corner 39 = .ok (.ifCond .eq 16, 3) := by decide +kernel
theorem dX10_corner_42 : decode cX10_corner 42 = .ok (.aload_n 0, 1) := by decide +kernel
theorem dX10_corner_43 : decode cX10_corner 43 = .ok (.getfield 51, 3) := by decide +kernel
theorem dX10_corner_46 : decode cX10_corner 46 = .ok (.iload 4, 2) := by decide +kernel
theorem dX10_corner_48 : decode cX10_corner 48 = .ok (.iaload, 1) := by decide +kernel
theorem dX10_corner_49 : decode cX10_corner 49 = .ok (.invokestatic 186, 3) := by decide +kernel
theorem dX10_corner_52 : decode cX10_corner 52 = .ok (.goto 4, 3) := by decide +kernel
theorem dX10_corner_55 : decode cX10_corner 55 = .ok (.iconst (-1), 1) := by decide +kernel
theorem dX10_corner_56 : decode cX10_corner 56 = .ok (.ireturn, 1) := by decide +kernel
theorem dX10_divisor_0 : decode cX10_divisor 0 = .ok (.iload_n 0, 1) := by decide +kernel
theorem dX10_divisor_1 : decode cX10_divisor 1 = .ok (.istore_n 2, 1) := by decide +kernel
theorem dX10_divisor_2 : decode cX10_divisor 2 = .ok (.iload_n 1, 1) := by decide +kernel
theorem dX10_divisor_3 : decode cX10_divisor 3 = .ok (.istore_n 3, 1) := by decide +kernel
theorem dX10_divisor_4 : decode cX10_divisor 4 = .ok (.iload_n 3, 1) := by decide +kernel
theorem dX10_divisor_5 : decode cX10_divisor 5 = .ok (.ifCond .eq 16, 3) := by decide +kernel
theorem dX10_divisor_8 : decode cX10_divisor 8 = .ok (.iload_n 2, 1) := by decide +kernel
theorem dX10_divisor_9 : decode cX10_divisor 9 = .ok (.iload_n 3, 1) := by decide +kernel
theorem dX10_divisor_10 : decode cX10_divisor 10 = .ok (.irem, 1) := by decide +kernel
theorem dX10_divisor_11 : decode cX10_divisor 11 = .ok (.istore 4, 2) := by decide +kernel
theorem dX10_divisor_13 : decode cX10_divisor 13 = .ok (.iload_n 3, 1) := by decide +kernel
theorem dX10_divisor_14 : decode cX10_divisor 14 = .ok (.istore_n 2, 1) := by decide +kernel
theorem dX10_divisor_15 : decode cX10_divisor 15 = .ok (.iload 4, 2) := by decide +kernel
theorem dX10_divisor_17 : decode cX10_divisor 17 = .ok (.istore_n 3, 1) := by decide +kernel
theorem dX10_divisor_18 : decode cX10_divisor 18 = .ok (.goto (-14), 3) := by decide +kernel
theorem dX10_divisor_21 : decode cX10_divisor 21 = .ok (.iload_n 2, 1) := by decide +kernel
theorem dX10_divisor_22 : decode cX10_divisor 22 = .ok (.ireturn, 1) := by decide +kernel
theorem dX10_wall_0 : decode cX10_wall 0 = .ok (.iconst 0, 1) := by decide +kernel
theorem dX10_wall_1 : decode cX10_wall 1 = .ok (.istore_n 2, 1) := by decide +kernel
theorem dX10_wall_2 : decode cX10_wall 2 = .ok (.iconst 0, 1) := by decide +kernel
theorem dX10_wall_3 : decode cX10_wall 3 = .ok (.istore_n 3, 1) := by decide +kernel
theorem dX10_wall_4 : decode cX10_wall 4 = .ok (.iconst 0, 1) := by decide +kernel
theorem dX10_wall_5 : decode cX10_wall 5 = .ok (.istore 4, 2) := by decide +kernel
theorem dX10_wall_7 : decode cX10_wall 7 = .ok (.iload 4, 2) := by decide +kernel
theorem dX10_wall_9 : decode cX10_wall 9 = .ok (.aload_n 0, 1) := by decide +kernel
theorem dX10_wall_10 : decode cX10_wall 10 = .ok (.getfield 152, 3) := by decide +kernel
theorem dX10_wall_13 : decode cX10_wall 13 = .ok (.if_icmp .ge 103, 3) := by decide +kernel
theorem dX10_wall_16 : decode cX10_wall 16 = .ok (.iconst 0, 1) := by decide +kernel
theorem dX10_wall_17 : decode cX10_wall 17 = .ok (.istore 5, 2) := by decide +kernel
theorem dX10_wall_19 : decode cX10_wall 19 = .ok (.iload 5, 2) := by decide +kernel
theorem dX10_wall_21 : decode cX10_wall 21 = .ok (.bipush 81, 2) := by decide +kernel
theorem dX10_wall_23 : decode cX10_wall 23 = .ok (.if_icmp .ge 87, 3) := by decide +kernel
theorem dX10_wall_26 : decode cX10_wall 26 = .ok (.iload 5, 2) := by decide +kernel
theorem dX10_wall_28 : decode cX10_wall 28 = .ok (.bipush 9, 2) := by decide +kernel
theorem dX10_wall_30 : decode cX10_wall 30 = .ok (.irem, 1) := by decide +kernel
theorem dX10_wall_31 : decode cX10_wall 31 = .ok (.aload_n 0, 1) := by decide +kernel
theorem dX10_wall_32 : decode cX10_wall 32 = .ok (.getfield 51, 3) := by decide +kernel
theorem dX10_wall_35 : decode cX10_wall 35 = .ok (.iload 4, 2) := by decide +kernel
theorem dX10_wall_37 : decode cX10_wall 37 = .ok (.iaload, 1) := by decide +kernel
theorem dX10_wall_38 : decode cX10_wall 38 = .ok (.bipush 9, 2) := by decide +kernel
theorem dX10_wall_40 : decode cX10_wall 40 = .ok (.irem, 1) := by decide +kernel
theorem dX10_wall_41 : decode cX10_wall 41 = .ok (.isub, 1) := by decide +kernel
theorem dX10_wall_42 : decode cX10_wall 42 = .ok (.istore 6, 2) := by decide +kernel
theorem dX10_wall_44 : decode cX10_wall 44 = .ok (.aload_n 0, 1) := by decide +kernel
theorem dX10_wall_45 : decode cX10_wall 45 = .ok (.getfield 51, 3) := by decide +kernel
theorem dX10_wall_48 : decode cX10_wall 48 = .ok (.iload 4, 2) := by decide +kernel
theorem dX10_wall_50 : decode cX10_wall 50 = .ok (.iaload, 1) := by decide +kernel
theorem dX10_wall_51 : decode cX10_wall 51 = .ok (.bipush 9, 2) := by decide +kernel
theorem dX10_wall_53 : decode cX10_wall 53 = .ok (.idiv, 1) := by decide +kernel
theorem dX10_wall_54 : decode cX10_wall 54 = .ok (.iload 5, 2) := by decide +kernel
theorem dX10_wall_56 : decode cX10_wall 56 = .ok (.bipush 9, 2) := by decide +kernel
theorem dX10_wall_58 : decode cX10_wall 58 = .ok (.idiv, 1) := by decide +kernel
theorem dX10_wall_59 : decode cX10_wall 59 = .ok (.isub, 1) := by decide +kernel
theorem dX10_wall_60 : decode cX10_wall 60 = .ok (.istore 7, 2) := by decide +kernel
theorem dX10_wall_62 : decode cX10_wall 62 = .ok (.iload 6, 2) := by decide +kernel
theorem dX10_wall_64 : decode cX10_wall 64 = .ok (.ifCond .le 40, 3) := by decide +kernel
theorem dX10_wall_67 : decode cX10_wall 67 = .ok (.aload_n 0, 1) := by decide +kernel
theorem dX10_wall_68 : decode cX10_wall 68 = .ok (.getfield 54, 3) := by decide +kernel
theorem dX10_wall_71 : decode cX10_wall 71 = .ok (.bipush 81, 2) := by decide +kernel
theorem dX10_wall_73 : decode cX10_wall 73 = .ok (.iload 4, 2) := by decide +kernel
theorem dX10_wall_75 : decode cX10_wall 75 = .ok (.imul, 1) := by decide +kernel
theorem dX10_wall_76 : decode cX10_wall 76 = .ok (.iload 5, 2) := by decide +kernel
theorem dX10_wall_78 : decode cX10_wall 78 = .ok (.iadd, 1) := by decide +kernel
theorem dX10_wall_79 : decode cX10_wall 79 = .ok (.iaload, 1) := by decide +kernel
theorem dX10_wall_80 : decode cX10_wall 80 = .ok (.ifCond .eq 24, 3) := by decide +kernel
theorem dX10_wall_83 : decode cX10_wall 83 = .ok (.iload_n 3, 1) := by decide +kernel
theorem dX10_wall_84 : decode cX10_wall 84 = .ok (.ifCond .eq 14, 3) := by decide +kernel
theorem dX10_wall_87 : decode cX10_wall 87 = .ok (.iload 7, 2) := by decide +kernel
theorem dX10_wall_89 : decode cX10_wall 89 = .ok (.iload_n 3, 1) := by decide +kernel
theorem dX10_wall_90 : decode cX10_wall 90 = .ok (.imul, 1) := by decide +kernel
theorem dX10_wall_91 : decode cX10_wall 91 = .ok (.iload_n 2, 1) := by decide +kernel
theorem dX10_wall_92 : decode cX10_wall 92 = .ok (.iload 6, 2) := by decide +kernel
theorem dX10_wall_94 : decode cX10_wall 94 = .ok (.imul, 1) := by decide +kernel
theorem dX10_wall_95 : decode cX10_wall 95 = .ok (.if_icmp .ge 9, 3) := by decide +kernel
theorem dX10_wall_98 : decode cX10_wall 98 = .ok (.iload 7, 2) := by decide +kernel
theorem dX10_wall_100 : decode cX10_wall 100 = .ok (.istore_n 2, 1) := by decide +kernel
theorem dX10_wall_101 : decode cX10_wall 101 = .ok (.iload 6, 2) := by decide +kernel
theorem dX10_wall_103 : decode cX10_wall 103 = .ok (.istore_n 3, 1) := by decide +kernel
theorem dX10_wall_104 : decode cX10_wall 104 = .ok (.iinc 5 1, 3) := by decide +kernel
theorem dX10_wall_107 : decode cX10_wall 107 = .ok (.goto (-88), 3) := by decide +kernel
theorem dX10_wall_110 : decode cX10_wall 110 = .ok (.iinc 4 1, 3) := by decide +kernel
theorem dX10_wall_113 : decode cX10_wall 113 = .ok (.goto (-106), 3) := by decide +kernel
theorem dX10_wall_116 : decode cX10_wall 116 = .ok (.iload_n 3, 1) := by decide +kernel
theorem dX10_wall_117 : decode cX10_wall 117 = .ok (.ifCond .ne 7, 3) := by decide +kernel
theorem dX10_wall_120 : decode cX10_wall 120 = .ok (.iconst 1, 1) := by decide +kernel
theorem dX10_wall_121 : decode cX10_wall 121 = .ok (.goto 8, 3) := by decide +kernel
theorem dX10_wall_124 : decode cX10_wall 124 = .ok (.iload_n 2, 1) := by decide +kernel
theorem dX10_wall_125 : decode cX10_wall 125 = .ok (.iload_n 3, 1) := by decide +kernel
theorem dX10_wall_126 : decode cX10_wall 126 = .ok (.invokestatic 189, 3) := by decide +kernel
theorem dX10_wall_129 : decode cX10_wall 129 = .ok (.istore 4, 2) := by decide +kernel
theorem dX10_wall_131 : decode cX10_wall 131 = .ok (.aload_n 0, 1) := by decide +kernel
theorem dX10_wall_132 : decode cX10_wall 132 = .ok (.getfield 57, 3) := by decide +kernel
theorem dX10_wall_135 : decode cX10_wall 135 = .ok (.iload_n 1, 1) := by decide +kernel
theorem dX10_wall_136 : decode cX10_wall 136 = .ok (.iload_n 2, 1) := by decide +kernel
theorem dX10_wall_137 : decode cX10_wall 137 = .ok (.iload 4, 2) := by decide +kernel
theorem dX10_wall_139 : decode cX10_wall 139 = .ok (.idiv, 1) := by decide +kernel
theorem dX10_wall_140 : decode cX10_wall 140 = .ok (.iastore, 1) := by decide +kernel
theorem dX10_wall_141 : decode cX10_wall 141 = .ok (.aload_n 0, 1) := by decide +kernel
theorem dX10_wall_142 : decode cX10_wall 142 = .ok (.getfield 60, 3) := by decide +kernel
theorem dX10_wall_145 : decode cX10_wall 145 = .ok (.iload_n 1, 1) := by decide +kernel
theorem dX10_wall_146 : decode cX10_wall 146 = .ok (.iload_n 3, 1) := by decide +kernel
theorem dX10_wall_147 : decode cX10_wall 147 = .ok (.iload 4, 2) := by decide +kernel
theorem dX10_wall_149 : decode cX10_wall 149 = .ok (.idiv, 1) := by decide +kernel
theorem dX10_wall_150 : decode cX10_wall 150 = .ok (.iastore, 1) := by decide +kernel
theorem dX10_wall_151 : decode cX10_wall 151 = .ok (.return_, 1) := by decide +kernel
theorem dX10_keep_0 : decode cX10_keep 0 = .ok (.aload_n 0, 1) := by decide +kernel
theorem dX10_keep_1 : decode cX10_keep 1 = .ok (.getfield 63, 3) := by decide +kernel
theorem dX10_keep_4 : decode cX10_keep 4 = .ok (.iload_n 1, 1) := by decide +kernel
theorem dX10_keep_5 : decode cX10_keep 5 = .ok (.aload_n 0, 1) := by decide +kernel
theorem dX10_keep_6 : decode cX10_keep 6 = .ok (.getfield 152, 3) := by decide +kernel
theorem dX10_keep_9 : decode cX10_keep 9 = .ok (.iastore, 1) := by decide +kernel
theorem dX10_keep_10 : decode cX10_keep 10 = .ok (.iconst 0, 1) := by decide +kernel
theorem dX10_keep_11 : decode cX10_keep 11 = .ok (.istore_n 2, 1) := by decide +kernel
theorem dX10_keep_12 : decode cX10_keep 12 = .ok (.iload_n 2, 1) := by decide +kernel
theorem dX10_keep_13 : decode cX10_keep 13 = .ok (.bipush 9, 2) := by decide +kernel
theorem dX10_keep_15 : decode cX10_keep 15 = .ok (.if_icmp .ge 26, 3) := by decide +kernel
theorem dX10_keep_18 : decode cX10_keep 18 = .ok (.aload_n 0, 1) := by decide +kernel
theorem dX10_keep_19 : decode cX10_keep 19 = .ok (.getfield 66, 3) := by decide +kernel
theorem dX10_keep_22 : decode cX10_keep 22 = .ok (.bipush 9, 2) := by decide +kernel
theorem dX10_keep_24 : decode cX10_keep 24 = .ok (.iload_n 1, 1) := by decide +kernel
theorem dX10_keep_25 : decode cX10_keep 25 = .ok (.imul, 1) := by decide +kernel
theorem dX10_keep_26 : decode cX10_keep 26 = .ok (.iload_n 2, 1) := by decide +kernel
theorem dX10_keep_27 : decode cX10_keep 27 = .ok (.iadd, 1) := by decide +kernel
theorem dX10_keep_28 : decode cX10_keep 28 = .ok (.aload_n 0, 1) := by decide +kernel
theorem dX10_keep_29 : decode cX10_keep 29 = .ok (.getfield 48, 3) := by decide +kernel
theorem dX10_keep_32 : decode cX10_keep 32 = .ok (.iload_n 2, 1) := by decide +kernel
theorem dX10_keep_33 : decode cX10_keep 33 = .ok (.iaload, 1) := by decide +kernel
theorem dX10_keep_34 : decode cX10_keep 34 = .ok (.iastore, 1) := by decide +kernel
theorem dX10_keep_35 : decode cX10_keep 35 = .ok (.iinc 2 1, 3) := by decide +kernel
theorem dX10_keep_38 : decode cX10_keep 38 = .ok (.goto (-26), 3) := by decide +kernel
theorem dX10_keep_41 : decode cX10_keep 41 = .ok (.iconst 0, 1) := by decide +kernel
theorem dX10_keep_42 : decode cX10_keep 42 = .ok (.istore_n 2, 1) := by decide +kernel
theorem dX10_keep_43 : decode cX10_keep 43 = .ok (.iload_n 2, 1) := by decide +kernel
theorem dX10_keep_44 : decode cX10_keep 44 = .ok (.aload_n 0, 1) := by decide +kernel
theorem dX10_keep_45 : decode cX10_keep 45 = .ok (.getfield 152, 3) := by decide +kernel
theorem dX10_keep_48 : decode cX10_keep 48 = .ok (.if_icmp .ge 67, 3) := by decide +kernel
theorem dX10_keep_51 : decode cX10_keep 51 = .ok (.aload_n 0, 1) := by decide +kernel
theorem dX10_keep_52 : decode cX10_keep 52 = .ok (.getfield 69, 3) := by decide +kernel
theorem dX10_keep_55 : decode cX10_keep 55 = .ok (.bipush 9, 2) := by decide +kernel
theorem dX10_keep_57 : decode cX10_keep 57 = .ok (.iload_n 1, 1) := by decide +kernel
theorem dX10_keep_58 : decode cX10_keep 58 = .ok (.imul, 1) := by decide +kernel
theorem dX10_keep_59 : decode cX10_keep 59 = .ok (.iload_n 2, 1) := by decide +kernel
theorem dX10_keep_60 : decode cX10_keep 60 = .ok (.iadd, 1) := by decide +kernel
theorem dX10_keep_61 : decode cX10_keep 61 = .ok (.aload_n 0, 1) := by decide +kernel
theorem dX10_keep_62 : decode cX10_keep 62 = .ok (.getfield 51, 3) := by decide +kernel
theorem dX10_keep_65 : decode cX10_keep 65 = .ok (.iload_n 2, 1) := by decide +kernel
theorem dX10_keep_66 : decode cX10_keep 66 = .ok (.iaload, 1) := by decide +kernel
theorem dX10_keep_67 : decode cX10_keep 67 = .ok (.iastore, 1) := by decide +kernel
theorem dX10_keep_68 : decode cX10_keep 68 = .ok (.iconst 0, 1) := by decide +kernel
theorem dX10_keep_69 : decode cX10_keep 69 = .ok (.istore_n 3, 1) := by decide +kernel
theorem dX10_keep_70 : decode cX10_keep 70 = .ok (.iload_n 3, 1) := by decide +kernel
theorem dX10_keep_71 : decode cX10_keep 71 = .ok (.bipush 81, 2) := by decide +kernel
theorem dX10_keep_73 : decode cX10_keep 73 = .ok (.if_icmp .ge 36, 3) := by decide +kernel
theorem dX10_keep_76 : decode cX10_keep 76 = .ok (.aload_n 0, 1) := by decide +kernel
theorem dX10_keep_77 : decode cX10_keep 77 = .ok (.getfield 72, 3) := by decide +kernel
theorem dX10_keep_80 : decode cX10_keep 80 = .ok (.bipush 81, 2) := by decide +kernel
theorem dX10_keep_82 : decode cX10_keep 82 = .ok (.bipush 9, 2) := by decide +kernel
theorem dX10_keep_84 : decode cX10_keep 84 = .ok (.iload_n 1, 1) := by decide +kernel
theorem dX10_keep_85 : decode cX10_keep 85 = .ok (.imul, 1) := by decide +kernel
theorem dX10_keep_86 : decode cX10_keep 86 = .ok (.iload_n 2, 1) := by decide +kernel
theorem dX10_keep_87 : decode cX10_keep 87 = .ok (.iadd, 1) := by decide +kernel
theorem dX10_keep_88 : decode cX10_keep 88 = .ok (.imul, 1) := by decide +kernel
theorem dX10_keep_89 : decode cX10_keep 89 = .ok (.iload_n 3, 1) := by decide +kernel
theorem dX10_keep_90 : decode cX10_keep 90 = .ok (.iadd, 1) := by decide +kernel
theorem dX10_keep_91 : decode cX10_keep 91 = .ok (.aload_n 0, 1) := by decide +kernel
theorem dX10_keep_92 : decode cX10_keep 92 = .ok (.getfield 54, 3) := by decide +kernel
theorem dX10_keep_95 : decode cX10_keep 95 = .ok (.bipush 81, 2) := by decide +kernel
theorem dX10_keep_97 : decode cX10_keep 97 = .ok (.iload_n 2, 1) := by decide +kernel
theorem dX10_keep_98 : decode cX10_keep 98 = .ok (.imul, 1) := by decide +kernel
theorem dX10_keep_99 : decode cX10_keep 99 = .ok (.iload_n 3, 1) := by decide +kernel
theorem dX10_keep_100 : decode cX10_keep 100 = .ok (.iadd, 1) := by decide +kernel
theorem dX10_keep_101 : decode cX10_keep 101 = .ok (.iaload, 1) := by decide +kernel
theorem dX10_keep_102 : decode cX10_keep 102 = .ok (.iastore, 1) := by decide +kernel
theorem dX10_keep_103 : decode cX10_keep 103 = .ok (.iinc 3 1, 3) := by decide +kernel
theorem dX10_keep_106 : decode cX10_keep 106 = .ok (.goto (-36), 3) := by decide +kernel
theorem dX10_keep_109 : decode cX10_keep 109 = .ok (.iinc 2 1, 3) := by decide +kernel
theorem dX10_keep_112 : decode cX10_keep 112 = .ok (.goto (-69), 3) := by decide +kernel
theorem dX10_keep_115 : decode cX10_keep 115 = .ok (.aload_n 0, 1) := by decide +kernel
theorem dX10_keep_116 : decode cX10_keep 116 = .ok (.iload_n 1, 1) := by decide +kernel
theorem dX10_keep_117 : decode cX10_keep 117 = .ok (.invokevirtual 192, 3) := by decide +kernel
theorem dX10_keep_120 : decode cX10_keep 120 = .ok (.return_, 1) := by decide +kernel
theorem dX10_fan_0 : decode cX10_fan 0 = .ok (.aload_n 0, 1) := by decide +kernel
theorem dX10_fan_1 : decode cX10_fan 1 = .ok (.getfield 122, 3) := by decide +kernel
theorem dX10_fan_4 : decode cX10_fan 4 = .ok (.ifCond .eq 4, 3) := by decide +kernel
theorem dX10_fan_7 : decode cX10_fan 7 = .ok (.return_, 1) := by decide +kernel
theorem dX10_fan_8 : decode cX10_fan 8 = .ok (.aload_n 0, 1) := by decide +kernel
theorem dX10_fan_9 : decode cX10_fan 9 = .ok (.iconst 0, 1) := by decide +kernel
theorem dX10_fan_10 : decode cX10_fan 10 = .ok (.putfield 195, 3) := by decide +kernel
theorem dX10_fan_13 : decode cX10_fan 13 = .ok (.iconst 1, 1) := by decide +kernel
theorem dX10_fan_14 : decode cX10_fan 14 = .ok (.istore_n 1, 1) := by decide +kernel
theorem dX10_fan_15 : decode cX10_fan 15 = .ok (.iconst 0, 1) := by decide +kernel
theorem dX10_fan_16 : decode cX10_fan 16 = .ok (.istore_n 2, 1) := by decide +kernel
theorem dX10_fan_17 : decode cX10_fan 17 = .ok (.iconst 1, 1) := by decide +kernel
theorem dX10_fan_18 : decode cX10_fan 18 = .ok (.istore_n 3, 1) := by decide +kernel
theorem dX10_fan_19 : decode cX10_fan 19 = .ok (.iload_n 3, 1) := by decide +kernel
theorem dX10_fan_20 : decode cX10_fan 20 = .ok (.ifCond .eq 61, 3) := by decide +kernel
theorem dX10_fan_23 : decode cX10_fan 23 = .ok (.aload_n 0, 1) := by decide +kernel
theorem dX10_fan_24 : decode cX10_fan 24 = .ok (.iload_n 1, 1) := by decide +kernel
theorem dX10_fan_25 : decode cX10_fan 25 = .ok (.iload_n 2, 1) := by decide +kernel
theorem dX10_fan_26 : decode cX10_fan 26 = .ok (.iconst 1, 1) := by decide +kernel
theorem dX10_fan_27 : decode cX10_fan 27 = .ok (.invokevirtual 183, 3) := by decide +kernel
theorem dX10_fan_30 : decode cX10_fan 30 = .ok (.aload_n 0, 1) := by decide +kernel
theorem dX10_fan_31 : decode cX10_fan 31 = .ok (.aload_n 0, 1) := by decide +kernel
theorem dX10_fan_32 : decode cX10_fan 32 = .ok (.getfield 195, 3) := by decide +kernel
theorem dX10_fan_35 : decode cX10_fan 35 = .ok (.invokevirtual 198, 3) := by decide +kernel
theorem dX10_fan_38 : decode cX10_fan 38 = .ok (.aload_n 0, 1) := by decide +kernel
theorem dX10_fan_39 : decode cX10_fan 39 = .ok (.getfield 60, 3) := by decide +kernel
theorem dX10_fan_42 : decode cX10_fan 42 = .ok (.aload_n 0, 1) := by decide +kernel
theorem dX10_fan_43 : decode cX10_fan 43 = .ok (.getfield 195, 3) := by decide +kernel
theorem dX10_fan_46 : decode cX10_fan 46 = .ok (.iaload, 1) := by decide +kernel
theorem dX10_fan_47 : decode cX10_fan 47 = .ok (.istore_n 1, 1) := by decide +kernel
theorem dX10_fan_48 : decode cX10_fan 48 = .ok (.aload_n 0, 1) := by decide +kernel
theorem dX10_fan_49 : decode cX10_fan 49 = .ok (.getfield 57, 3) := by decide +kernel
theorem dX10_fan_52 : decode cX10_fan 52 = .ok (.aload_n 0, 1) := by decide +kernel
theorem dX10_fan_53 : decode cX10_fan 53 = .ok (.getfield 195, 3) := by decide +kernel
theorem dX10_fan_56 : decode cX10_fan 56 = .ok (.iaload, 1) := by decide +kernel
theorem dX10_fan_57 : decode cX10_fan 57 = .ok (.istore_n 2, 1) := by decide +kernel
theorem dX10_fan_58 : decode cX10_fan 58 = .ok (.iload_n 1, 1) := by decide +kernel
theorem dX10_fan_59 : decode cX10_fan 59 = .ok (.ifCond .le 7, 3) := by decide +kernel
theorem dX10_fan_62 : decode cX10_fan 62 = .ok (.iconst 1, 1) := by decide +kernel
theorem dX10_fan_63 : decode cX10_fan 63 = .ok (.goto 4, 3) := by decide +kernel
theorem dX10_fan_66 : decode cX10_fan 66 = .ok (.iconst 0, 1) := by decide +kernel
theorem dX10_fan_67 : decode cX10_fan 67 = .ok (.istore_n 3, 1) := by decide +kernel
theorem dX10_fan_68 : decode cX10_fan 68 = .ok (.aload_n 0, 1) := by decide +kernel
theorem dX10_fan_69 : decode cX10_fan 69 = .ok (.dup, 1) := by decide +kernel
theorem dX10_fan_70 : decode cX10_fan 70 = .ok (.getfield 195, 3) := by decide +kernel
theorem dX10_fan_73 : decode cX10_fan 73 = .ok (.iconst 1, 1) := by decide +kernel
theorem dX10_fan_74 : decode cX10_fan 74 = .ok (.iadd, 1) := by decide +kernel
theorem dX10_fan_75 : decode cX10_fan 75 = .ok (.putfield 195, 3) := by decide +kernel
theorem dX10_fan_78 : decode cX10_fan 78 = .ok (.goto (-59), 3) := by decide +kernel
theorem dX10_fan_81 : decode cX10_fan 81 = .ok (.aload_n 0, 1) := by decide +kernel
theorem dX10_fan_82 : decode cX10_fan 82 = .ok (.iconst 1, 1) := by decide +kernel
theorem dX10_fan_83 : decode cX10_fan 83 = .ok (.putfield 122, 3) := by decide +kernel
theorem dX10_fan_86 : decode cX10_fan 86 = .ok (.return_, 1) := by decide +kernel
theorem dX10_isCone_0 : decode cX10_isCone 0 = .ok (.aload_n 0, 1) := by decide +kernel
theorem dX10_isCone_1 : decode cX10_isCone 1 = .ok (.invokevirtual 201, 3) := by decide +kernel
theorem dX10_isCone_4 : decode cX10_isCone 4 = .ok (.iload_n 1, 1) := by decide +kernel
theorem dX10_isCone_5 : decode cX10_isCone 5 = .ok (.iconst 0, 1) := by decide +kernel
theorem dX10_isCone_6 : decode cX10_isCone 6 = .ok (.aload_n 0, 1) := by decide +kernel
theorem dX10_isCone_7 : decode cX10_isCone 7 = .ok (.getfield 195, 3) := by decide +kernel
theorem dX10_isCone_10 : decode cX10_isCone 10 = .ok (.iconst 1, 1) := by decide +kernel
theorem dX10_isCone_11 : decode cX10_isCone 11 = .ok (.isub, 1) := by decide +kernel
theorem dX10_isCone_12 : decode cX10_isCone 12 = .ok (.invokestatic 114, 3) := by decide +kernel
theorem dX10_isCone_15 : decode cX10_isCone 15 = .ok (.ireturn, 1) := by decide +kernel
theorem dX10_isBasis_0 : decode cX10_isBasis 0 = .ok (.aload_n 0, 1) := by decide +kernel
theorem dX10_isBasis_1 : decode cX10_isBasis 1 = .ok (.iload_n 1, 1) := by decide +kernel
theorem dX10_isBasis_2 : decode cX10_isBasis 2 = .ok (.invokevirtual 204, 3) := by decide +kernel
theorem dX10_isBasis_5 : decode cX10_isBasis 5 = .ok (.ifCond .eq 23, 3) := by decide +kernel
theorem dX10_isBasis_8 : decode cX10_isBasis 8 = .ok (.iload_n 2, 1) := by decide +kernel
theorem dX10_isBasis_9 : decode cX10_isBasis 9 = .ok (.iconst 0, 1) := by decide +kernel
theorem dX10_isBasis_10 : decode cX10_isBasis 10 = .ok (.aload_n 0, 1) := by decide +kernel
theorem dX10_isBasis_11 : decode cX10_isBasis 11 = .ok (.getfield 63, 3) := by decide +kernel
theorem dX10_isBasis_14 : decode cX10_isBasis 14 = .ok (.iload_n 1, 1) := by decide +kernel
theorem dX10_isBasis_15 : decode cX10_isBasis 15 = .ok (.iaload, 1) := by decide +kernel
theorem dX10_isBasis_16 : decode cX10_isBasis 16 = .ok (.iconst 1, 1) := by decide +kernel
theorem dX10_isBasis_17 : decode cX10_isBasis 17 = .ok (.isub, 1) := by decide +kernel
theorem dX10_isBasis_18 : decode cX10_isBasis 18 = .ok (.invokestatic 114, 3) := by decide +kernel
theorem dX10_isBasis_21 : decode cX10_isBasis 21 = .ok (.ifCond .eq 7, 3) := by decide +kernel
theorem dX10_isBasis_24 : decode cX10_isBasis 24 = .ok (.iconst 1, 1) := by decide +kernel
theorem dX10_isBasis_25 : decode cX10_isBasis 25 = .ok (.goto 4, 3) := by decide +kernel
theorem dX10_isBasis_28 : decode cX10_isBasis 28 = .ok (.iconst 0, 1) := by decide +kernel
theorem dX10_isBasis_29 : decode cX10_isBasis 29 = .ok (.ireturn, 1) := by decide +kernel
theorem dX10_cell_0 : decode cX10_cell 0 = .ok (.aload_n 0, 1) := by decide +kernel
theorem dX10_cell_1 : decode cX10_cell 1 = .ok (.getfield 72, 3) := by decide +kernel
end
section
theorem dX10_cell_4 : decode cX10_cell 4 = .ok (.bipush 81, 2) := by decide +kernel
theorem dX10_cell_6 : decode cX10_cell 6 = .ok (.bipush 9, 2) := by decide +kernel
theorem dX10_cell_8 : decode cX10_cell 8 = .ok (.iload_n 1, 1) := by decide +kernel
theorem dX10_cell_9 : decode cX10_cell 9 = .ok (.imul, 1) := by decide +kernel
theorem dX10_cell_10 : decode cX10_cell 10 = .ok (.iload_n 2, 1) := by decide +kernel
theorem dX10_cell_11 : decode cX10_cell 11 = .ok (.iadd, 1) := by decide +kernel
theorem dX10_cell_12 : decode cX10_cell 12 = .ok (.imul, 1) := by decide +kernel
theorem dX10_cell_13 : decode cX10_cell 13 = .ok (.iload_n 3, 1) := by decide +kernel
theorem dX10_cell_14 : decode cX10_cell 14 = .ok (.iadd, 1) := by decide +kernel
theorem dX10_cell_15 : decode cX10_cell 15 = .ok (.iaload, 1) := by decide +kernel
theorem dX10_cell_16 : decode cX10_cell 16 = .ok (.ireturn, 1) := by decide +kernel
theorem dX10_coneCount_0 : decode cX10_coneCount 0 = .ok (.aload_n 0, 1) := by decide +kernel
theorem dX10_coneCount_1 : decode cX10_coneCount 1 = .ok (.invokevirtual 201, 3) := by decide +kernel
theorem dX10_coneCount_4 : decode cX10_coneCount 4 = .ok (.aload_n 0, 1) := by decide +kernel
theorem dX10_coneCount_5 : decode cX10_coneCount 5 = .ok (.getfield 195, 3) := by decide +kernel
theorem dX10_coneCount_8 : decode cX10_coneCount 8 = .ok (.ireturn, 1) := by decide +kernel
theorem dX10_wallNumerator_0 : decode cX10_wallNumerator 0 = .ok (.aload_n 0, 1) := by decide +kernel
theorem dX10_wallNumerator_1 : decode cX10_wallNumerator 1 = .ok (.iload_n 1, 1) := by decide +kernel
theorem dX10_wallNumerator_2 : decode cX10_wallNumerator 2 = .ok (.invokevirtual 204, 3) := by decide +kernel
theorem dX10_wallNumerator_5 : decode cX10_wallNumerator 5 = .ok (.ifCond .ne 5, 3) := by decide +kernel
theorem dX10_wallNumerator_8 : decode cX10_wallNumerator 8 = .ok (.iconst (-1), 1) := by decide +kernel
theorem dX10_wallNumerator_9 : decode cX10_wallNumerator 9 = .ok (.ireturn, 1) := by decide +kernel
theorem dX10_wallNumerator_10 : decode cX10_wallNumerator 10 = .ok (.aload_n 0, 1) := by decide +kernel
theorem dX10_wallNumerator_11 : decode cX10_wallNumerator 11 = .ok (.getfield 60, 3) := by decide +kernel
theorem dX10_wallNumerator_14 : decode cX10_wallNumerator 14 = .ok (.iload_n 1, 1) := by decide +kernel
theorem dX10_wallNumerator_15 : decode cX10_wallNumerator 15 = .ok (.iaload, 1) := by decide +kernel
theorem dX10_wallNumerator_16 : decode cX10_wallNumerator 16 = .ok (.ifCond .ne 8, 3) := by decide +kernel
theorem dX10_wallNumerator_19 : decode cX10_wallNumerator 19 = .ok (.bipush (-5), 2) := by decide +kernel
theorem dX10_wallNumerator_21 : decode cX10_wallNumerator 21 = .ok (.goto 9, 3) := by decide +kernel
theorem dX10_wallNumerator_24 : decode cX10_wallNumerator 24 = .ok (.aload_n 0, 1) := by decide +kernel
theorem dX10_wallNumerator_25 : decode cX10_wallNumerator 25 = .ok (.getfield 57, 3) := by decide +kernel
theorem dX10_wallNumerator_28 : decode cX10_wallNumerator 28 = .ok (.iload_n 1, 1) := by decide +kernel
theorem dX10_wallNumerator_29 : decode cX10_wallNumerator 29 = .ok (.iaload, 1) := by decide +kernel
theorem dX10_wallNumerator_30 : decode cX10_wallNumerator 30 = .ok (.ireturn, 1) := by decide +kernel
theorem dX10_wallDenominator_0 : decode cX10_wallDenominator 0 = .ok (.aload_n 0, 1) := by decide +kernel
theorem dX10_wallDenominator_1 : decode cX10_wallDenominator 1 = .ok (.iload_n 1, 1) := by decide +kernel
theorem dX10_wallDenominator_2 : decode cX10_wallDenominator 2 = .ok (.invokevirtual 204, 3) := by decide +kernel
theorem dX10_wallDenominator_5 : decode cX10_wallDenominator 5 = .ok (.ifCond .ne 5, 3) := by decide +kernel
theorem dX10_wallDenominator_8 : decode cX10_wallDenominator 8 = .ok (.iconst (-1), 1) := by decide +kernel
theorem dX10_wallDenominator_9 : decode cX10_wallDenominator 9 = .ok (.ireturn, 1) := by decide +kernel
theorem dX10_wallDenominator_10 : decode cX10_wallDenominator 10 = .ok (.aload_n 0, 1) := by decide +kernel
theorem dX10_wallDenominator_11 : decode cX10_wallDenominator 11 = .ok (.getfield 60, 3) := by decide +kernel
theorem dX10_wallDenominator_14 : decode cX10_wallDenominator 14 = .ok (.iload_n 1, 1) := by decide +kernel
theorem dX10_wallDenominator_15 : decode cX10_wallDenominator 15 = .ok (.iaload, 1) := by decide +kernel
theorem dX10_wallDenominator_16 : decode cX10_wallDenominator 16 = .ok (.ifCond .ne 8, 3) := by decide +kernel
theorem dX10_wallDenominator_19 : decode cX10_wallDenominator 19 = .ok (.bipush (-5), 2) := by decide +kernel
theorem dX10_wallDenominator_21 : decode cX10_wallDenominator 21 = .ok (.goto 9, 3) := by decide +kernel
theorem dX10_wallDenominator_24 : decode cX10_wallDenominator 24 = .ok (.aload_n 0, 1) := by decide +kernel
theorem dX10_wallDenominator_25 : decode cX10_wallDenominator 25 = .ok (.getfield 60, 3) := by decide +kernel
theorem dX10_wallDenominator_28 : decode cX10_wallDenominator 28 = .ok (.iload_n 1, 1) := by decide +kernel
theorem dX10_wallDenominator_29 : decode cX10_wallDenominator 29 = .ok (.iaload, 1) := by decide +kernel
theorem dX10_wallDenominator_30 : decode cX10_wallDenominator 30 = .ok (.ireturn, 1) := by decide +kernel
theorem dX10_contains_0 : decode cX10_contains 0 = .ok (.iload_n 1, 1) := by decide +kernel
theorem dX10_contains_1 : decode cX10_contains 1 = .ok (.ifCond .eq 30, 3) := by decide +kernel
theorem dX10_contains_4 : decode cX10_contains 4 = .ok (.iload_n 2, 1) := by decide +kernel
theorem dX10_contains_5 : decode cX10_contains 5 = .ok (.ifCond .eq 26, 3) := by decide +kernel
theorem dX10_contains_8 : decode cX10_contains 8 = .ok (.iload_n 3, 1) := by decide +kernel
theorem dX10_contains_9 : decode cX10_contains 9 = .ok (.aload_n 0, 1) := by decide +kernel
theorem dX10_contains_10 : decode cX10_contains 10 = .ok (.getfield 60, 3) := by decide +kernel
theorem dX10_contains_13 : decode cX10_contains 13 = .ok (.iload_n 1, 1) := by decide +kernel
theorem dX10_contains_14 : decode cX10_contains 14 = .ok (.iconst 1, 1) := by decide +kernel
theorem dX10_contains_15 : decode cX10_contains 15 = .ok (.isub, 1) := by decide +kernel
theorem dX10_contains_16 : decode cX10_contains 16 = .ok (.iaload, 1) := by decide +kernel
theorem dX10_contains_17 : decode cX10_contains 17 = .ok (.imul, 1) := by decide +kernel
theorem dX10_contains_18 : decode cX10_contains 18 = .ok (.aload_n 0, 1) := by decide +kernel
theorem dX10_contains_19 : decode cX10_contains 19 = .ok (.getfield 57, 3) := by decide +kernel
theorem dX10_contains_22 : decode cX10_contains 22 = .ok (.iload_n 1, 1) := by decide +kernel
theorem dX10_contains_23 : decode cX10_contains 23 = .ok (.iconst 1, 1) := by decide +kernel
theorem dX10_contains_24 : decode cX10_contains 24 = .ok (.isub, 1) := by decide +kernel
theorem dX10_contains_25 : decode cX10_contains 25 = .ok (.iaload, 1) := by decide +kernel
theorem dX10_contains_26 : decode cX10_contains 26 = .ok (.iload_n 2, 1) := by decide +kernel
theorem dX10_contains_27 : decode cX10_contains 27 = .ok (.imul, 1) := by decide +kernel
theorem dX10_contains_28 : decode cX10_contains 28 = .ok (.if_icmp .lt 7, 3) := by decide +kernel
theorem dX10_contains_31 : decode cX10_contains 31 = .ok (.iconst 1, 1) := by decide +kernel
theorem dX10_contains_32 : decode cX10_contains 32 = .ok (.goto 4, 3) := by decide +kernel
theorem dX10_contains_35 : decode cX10_contains 35 = .ok (.iconst 0, 1) := by decide +kernel
theorem dX10_contains_36 : decode cX10_contains 36 = .ok (.istore 4, 2) := by decide +kernel
theorem dX10_contains_38 : decode cX10_contains 38 = .ok (.aload_n 0, 1) := by decide +kernel
theorem dX10_contains_39 : decode cX10_contains 39 = .ok (.getfield 60, 3) := by decide +kernel
theorem dX10_contains_42 : decode cX10_contains 42 = .ok (.iload_n 1, 1) := by decide +kernel
theorem dX10_contains_43 : decode cX10_contains 43 = .ok (.iaload, 1) := by decide +kernel
theorem dX10_contains_44 : decode cX10_contains 44 = .ok (.ifCond .eq 26, 3) := by decide +kernel
theorem dX10_contains_47 : decode cX10_contains 47 = .ok (.iload_n 2, 1) := by decide +kernel
theorem dX10_contains_48 : decode cX10_contains 48 = .ok (.ifCond .le 26, 3) := by decide +kernel
theorem dX10_contains_51 : decode cX10_contains 51 = .ok (.iload_n 3, 1) := by decide +kernel
theorem dX10_contains_52 : decode cX10_contains 52 = .ok (.aload_n 0, 1) := by decide +kernel
theorem dX10_contains_53 : decode cX10_contains 53 = .ok (.getfield 60, 3) := by decide +kernel
theorem dX10_contains_56 : decode cX10_contains 56 = .ok (.iload_n 1, 1) := by decide +kernel
theorem dX10_contains_57 : decode cX10_contains 57 = .ok (.iaload, 1) := by decide +kernel
theorem dX10_contains_58 : decode cX10_contains 58 = .ok (.imul, 1) := by decide +kernel
theorem dX10_contains_59 : decode cX10_contains 59 = .ok (.aload_n 0, 1) := by decide +kernel
theorem dX10_contains_60 : decode cX10_contains 60 = .ok (.getfield 57, 3) := by decide +kernel
theorem dX10_contains_63 : decode cX10_contains 63 = .ok (.iload_n 1, 1) := by decide +kernel
theorem dX10_contains_64 : decode cX10_contains 64 = .ok (.iaload, 1) := by decide +kernel
theorem dX10_contains_65 : decode cX10_contains 65 = .ok (.iload_n 2, 1) := by decide +kernel
theorem dX10_contains_66 : decode cX10_contains 66 = .ok (.imul, 1) := by decide +kernel
theorem dX10_contains_67 : decode cX10_contains 67 = .ok (.if_icmp .gt 7, 3) := by decide +kernel
theorem dX10_contains_70 : decode cX10_contains 70 = .ok (.iconst 1, 1) := by decide +kernel
theorem dX10_contains_71 : decode cX10_contains 71 = .ok (.goto 4, 3) := by decide +kernel
theorem dX10_contains_74 : decode cX10_contains 74 = .ok (.iconst 0, 1) := by decide +kernel
theorem dX10_contains_75 : decode cX10_contains 75 = .ok (.istore 5, 2) := by decide +kernel
theorem dX10_contains_77 : decode cX10_contains 77 = .ok (.iload 4, 2) := by decide +kernel
theorem dX10_contains_79 : decode cX10_contains 79 = .ok (.ifCond .eq 12, 3) := by decide +kernel
theorem dX10_contains_82 : decode cX10_contains 82 = .ok (.iload 5, 2) := by decide +kernel
theorem dX10_contains_84 : decode cX10_contains 84 = .ok (.ifCond .eq 7, 3) := by decide +kernel
theorem dX10_contains_87 : decode cX10_contains 87 = .ok (.iconst 1, 1) := by decide +kernel
theorem dX10_contains_88 : decode cX10_contains 88 = .ok (.goto 4, 3) := by decide +kernel
theorem dX10_contains_91 : decode cX10_contains 91 = .ok (.iconst 0, 1) := by decide +kernel
theorem dX10_contains_92 : decode cX10_contains 92 = .ok (.ireturn, 1) := by decide +kernel
theorem dX10_firstConeContaining_0 : decode cX10_firstConeContaining 0 = .ok (.iload_n 1, 1) := by decide +kernel
theorem dX10_firstConeContaining_1 : decode cX10_firstConeContaining 1 = .ok (.iload_n 2, 1) := by decide +kernel
theorem dX10_firstConeContaining_2 : decode cX10_firstConeContaining 2 = .ok (.invokestatic 179, 3) := by decide +kernel
theorem dX10_firstConeContaining_5 : decode cX10_firstConeContaining 5 = .ok (.ifCond .ne 6, 3) := by decide +kernel
theorem dX10_firstConeContaining_8 : decode cX10_firstConeContaining 8 = .ok (.bipush (-2), 2) := by decide +kernel
theorem dX10_firstConeContaining_10 : decode cX10_firstConeContaining 10 = .ok (.ireturn, 1) := by decide +kernel
theorem dX10_firstConeContaining_11 : decode cX10_firstConeContaining 11 = .ok (.aload_n 0, 1) := by decide +kernel
theorem dX10_firstConeContaining_12 : decode cX10_firstConeContaining 12 = .ok (.invokevirtual 201, 3) := by decide +kernel
theorem dX10_firstConeContaining_15 : decode cX10_firstConeContaining 15 = .ok (.iconst 0, 1) := by decide +kernel
theorem dX10_firstConeContaining_16 : decode cX10_firstConeContaining 16 = .ok (.istore_n 3, 1) := by decide +kernel
theorem dX10_firstConeContaining_17 : decode cX10_firstConeContaining 17 = .ok (.aload_n 0, 1) := by decide +kernel
theorem dX10_firstConeContaining_18 : decode cX10_firstConeContaining 18 = .ok (.iload_n 3, 1) := by decide +kernel
theorem dX10_firstConeContaining_19 : decode cX10_firstConeContaining 19 = .ok (.iload_n 1, 1) := by decide +kernel
theorem dX10_firstConeContaining_20 : decode cX10_firstConeContaining 20 = .ok (.iload_n 2, 1) := by decide +kernel
theorem dX10_firstConeContaining_21 : decode cX10_firstConeContaining 21 = .ok (.invokevirtual 207, 3) := by decide +kernel
theorem dX10_firstConeContaining_24 : decode cX10_firstConeContaining 24 = .ok (.ifCond .ne 9, 3) := by decide +kernel
theorem dX10_firstConeContaining_27 : decode cX10_firstConeContaining 27 = .ok (.iinc 3 1, 3) := by decide +kernel
theorem dX10_firstConeContaining_30 : decode cX10_firstConeContaining 30 = .ok (.goto (-13), 3) := by decide +kernel
theorem dX10_firstConeContaining_33 : decode cX10_firstConeContaining 33 = .ok (.iload_n 3, 1) := by decide +kernel
theorem dX10_firstConeContaining_34 : decode cX10_firstConeContaining 34 = .ok (.ireturn, 1) := by decide +kernel
theorem dX10_conesContaining_0 : decode cX10_conesContaining 0 = .ok (.iload_n 1, 1) := by decide +kernel
theorem dX10_conesContaining_1 : decode cX10_conesContaining 1 = .ok (.iload_n 2, 1) := by decide +kernel
theorem dX10_conesContaining_2 : decode cX10_conesContaining 2 = .ok (.invokestatic 179, 3) := by decide +kernel
theorem dX10_conesContaining_5 : decode cX10_conesContaining 5 = .ok (.ifCond .ne 6, 3) := by decide +kernel
theorem dX10_conesContaining_8 : decode cX10_conesContaining 8 = .ok (.bipush (-2), 2) := by decide +kernel
theorem dX10_conesContaining_10 : decode cX10_conesContaining 10 = .ok (.ireturn, 1) := by decide +kernel
theorem dX10_conesContaining_11 : decode cX10_conesContaining 11 = .ok (.aload_n 0, 1) := by decide +kernel
theorem dX10_conesContaining_12 : decode cX10_conesContaining 12 = .ok (.invokevirtual 201, 3) := by decide +kernel
theorem dX10_conesContaining_15 : decode cX10_conesContaining 15 = .ok (.iconst 0, 1) := by decide +kernel
theorem dX10_conesContaining_16 : decode cX10_conesContaining 16 = .ok (.istore_n 3, 1) := by decide +kernel
theorem dX10_conesContaining_17 : decode cX10_conesContaining 17 = .ok (.iconst 0, 1) := by decide +kernel
theorem dX10_conesContaining_18 : decode cX10_conesContaining 18 = .ok (.istore 4, 2) := by decide +kernel
theorem dX10_conesContaining_20 : decode cX10_conesContaining 20 = .ok (.iload 4, 2) := by decide +kernel
theorem dX10_conesContaining_22 : decode cX10_conesContaining 22 = .ok (.aload_n 0, 1) := by decide +kernel
theorem dX10_conesContaining_23 : decode cX10_conesContaining 23 = .ok (.getfield 195, 3) := by decide +kernel
theorem dX10_conesContaining_26 : decode cX10_conesContaining 26 = .ok (.if_icmp .ge 28, 3) := by decide +kernel
theorem dX10_conesContaining_29 : decode cX10_conesContaining 29 = .ok (.iload_n 3, 1) := by decide +kernel
theorem dX10_conesContaining_30 : decode cX10_conesContaining 30 = .ok (.aload_n 0, 1) := by decide +kernel
theorem dX10_conesContaining_31 : decode cX10_conesContaining 31 = .ok (.iload 4, 2) := by decide +kernel
theorem dX10_conesContaining_33 : decode cX10_conesContaining 33 = .ok (.iload_n 1, 1) := by decide +kernel
theorem dX10_conesContaining_34 : decode cX10_conesContaining 34 = .ok (.iload_n 2, 1) := by decide +kernel
theorem dX10_conesContaining_35 : decode cX10_conesContaining 35 = .ok (.invokevirtual 207, 3) := by decide +kernel
theorem dX10_conesContaining_38 : decode cX10_conesContaining 38 = .ok (.ifCond .eq 7, 3) := by decide +kernel
theorem dX10_conesContaining_41 : decode cX10_conesContaining 41 = .ok (.iconst 1, 1) := by decide +kernel
theorem dX10_conesContaining_42 : decode cX10_conesContaining 42 = .ok (.goto 4, 3) := by decide +kernel
theorem dX10_conesContaining_45 : decode cX10_conesContaining 45 = .ok (.iconst 0, 1) := by decide +kernel
theorem dX10_conesContaining_46 : decode cX10_conesContaining 46 = .ok (.iadd, 1) := by decide +kernel
theorem dX10_conesContaining_47 : decode cX10_conesContaining 47 = .ok (.istore_n 3, 1) := by decide +kernel
theorem dX10_conesContaining_48 : decode cX10_conesContaining 48 = .ok (.iinc 4 1, 3) := by decide +kernel
theorem dX10_conesContaining_51 : decode cX10_conesContaining 51 = .ok (.goto (-31), 3) := by decide +kernel
theorem dX10_conesContaining_54 : decode cX10_conesContaining 54 = .ok (.iload_n 3, 1) := by decide +kernel
theorem dX10_conesContaining_55 : decode cX10_conesContaining 55 = .ok (.ireturn, 1) := by decide +kernel
theorem dX10_coneHeight_0 : decode cX10_coneHeight 0 = .ok (.aload_n 0, 1) := by decide +kernel
theorem dX10_coneHeight_1 : decode cX10_coneHeight 1 = .ok (.iload_n 1, 1) := by decide +kernel
theorem dX10_coneHeight_2 : decode cX10_coneHeight 2 = .ok (.invokevirtual 204, 3) := by decide +kernel
theorem dX10_coneHeight_5 : decode cX10_coneHeight 5 = .ok (.ifCond .eq 24, 3) := by decide +kernel
theorem dX10_coneHeight_8 : decode cX10_coneHeight 8 = .ok (.iload_n 2, 1) := by decide +kernel
theorem dX10_coneHeight_9 : decode cX10_coneHeight 9 = .ok (.invokestatic 176, 3) := by decide +kernel
theorem dX10_coneHeight_12 : decode cX10_coneHeight 12 = .ok (.ifCond .eq 17, 3) := by decide +kernel
theorem dX10_coneHeight_15 : decode cX10_coneHeight 15 = .ok (.aload_n 0, 1) := by decide +kernel
theorem dX10_coneHeight_16 : decode cX10_coneHeight 16 = .ok (.getfield 66, 3) := by decide +kernel
theorem dX10_coneHeight_19 : decode cX10_coneHeight 19 = .ok (.bipush 9, 2) := by decide +kernel
theorem dX10_coneHeight_21 : decode cX10_coneHeight 21 = .ok (.iload_n 1, 1) := by decide +kernel
theorem dX10_coneHeight_22 : decode cX10_coneHeight 22 = .ok (.imul, 1) := by decide +kernel
theorem dX10_coneHeight_23 : decode cX10_coneHeight 23 = .ok (.iload_n 2, 1) := by decide +kernel
theorem dX10_coneHeight_24 : decode cX10_coneHeight 24 = .ok (.iadd, 1) := by decide +kernel
theorem dX10_coneHeight_25 : decode cX10_coneHeight 25 = .ok (.iaload, 1) := by decide +kernel
theorem dX10_coneHeight_26 : decode cX10_coneHeight 26 = .ok (.goto 4, 3) := by decide +kernel
theorem dX10_coneHeight_29 : decode cX10_coneHeight 29 = .ok (.iconst (-1), 1) := by decide +kernel
theorem dX10_coneHeight_30 : decode cX10_coneHeight 30 = .ok (.ireturn, 1) := by decide +kernel
theorem dX10_basisSize_0 : decode cX10_basisSize 0 = .ok (.aload_n 0, 1) := by decide +kernel
theorem dX10_basisSize_1 : decode cX10_basisSize 1 = .ok (.iload_n 1, 1) := by decide +kernel
theorem dX10_basisSize_2 : decode cX10_basisSize 2 = .ok (.invokevirtual 204, 3) := by decide +kernel
theorem dX10_basisSize_5 : decode cX10_basisSize 5 = .ok (.ifCond .eq 12, 3) := by decide +kernel
theorem dX10_basisSize_8 : decode cX10_basisSize 8 = .ok (.aload_n 0, 1) := by decide +kernel
theorem dX10_basisSize_9 : decode cX10_basisSize 9 = .ok (.getfield 63, 3) := by decide +kernel
theorem dX10_basisSize_12 : decode cX10_basisSize 12 = .ok (.iload_n 1, 1) := by decide +kernel
theorem dX10_basisSize_13 : decode cX10_basisSize 13 = .ok (.iaload, 1) := by decide +kernel
theorem dX10_basisSize_14 : decode cX10_basisSize 14 = .ok (.goto 4, 3) := by decide +kernel
theorem dX10_basisSize_17 : decode cX10_basisSize 17 = .ok (.iconst (-1), 1) := by decide +kernel
theorem dX10_basisSize_18 : decode cX10_basisSize 18 = .ok (.ireturn, 1) := by decide +kernel
theorem dX10_basisCorner_0 : decode cX10_basisCorner 0 = .ok (.aload_n 0, 1) := by decide +kernel
theorem dX10_basisCorner_1 : decode cX10_basisCorner 1 = .ok (.iload_n 1, 1) := by decide +kernel
theorem dX10_basisCorner_2 : decode cX10_basisCorner 2 = .ok (.iload_n 2, 1) := by decide +kernel
theorem dX10_basisCorner_3 : decode cX10_basisCorner 3 = .ok (.invokevirtual 210, 3) := by decide +kernel
theorem dX10_basisCorner_6 : decode cX10_basisCorner 6 = .ok (.ifCond .eq 20, 3) := by decide +kernel
theorem dX10_basisCorner_9 : decode cX10_basisCorner 9 = .ok (.aload_n 0, 1) := by decide +kernel
theorem dX10_basisCorner_10 : decode cX10_basisCorner 10 = .ok (.getfield 69, 3) := by decide +kernel
theorem dX10_basisCorner_13 : decode cX10_basisCorner 13 = .ok (.bipush 9, 2) := by decide +kernel
theorem dX10_basisCorner_15 : decode cX10_basisCorner 15 = .ok (.iload_n 1, 1) := by decide +kernel
theorem dX10_basisCorner_16 : decode cX10_basisCorner 16 = .ok (.imul, 1) := by decide +kernel
theorem dX10_basisCorner_17 : decode cX10_basisCorner 17 = .ok (.iload_n 2, 1) := by decide +kernel
theorem dX10_basisCorner_18 : decode cX10_basisCorner 18 = .ok (.iadd, 1) := by decide +kernel
theorem dX10_basisCorner_19 : decode cX10_basisCorner 19 = .ok (.iaload, 1) := by decide +kernel
theorem dX10_basisCorner_20 : decode cX10_basisCorner 20 = .ok (.invokestatic 186, 3) := by decide +kernel
theorem dX10_basisCorner_23 : decode cX10_basisCorner 23 = .ok (.goto 4, 3) := by decide +kernel
theorem dX10_basisCorner_26 : decode cX10_basisCorner 26 = .ok (.iconst (-1), 1) := by decide +kernel
theorem dX10_basisCorner_27 : decode cX10_basisCorner 27 = .ok (.ireturn, 1) := by decide +kernel
theorem dX10_basisCoefficient_0 : decode cX10_basisCoefficient 0 = .ok (.aload_n 0, 1) := by decide +kernel
theorem dX10_basisCoefficient_1 : decode cX10_basisCoefficient 1 = .ok (.iload_n 1, 1) := by decide +kernel
theorem dX10_basisCoefficient_2 : decode cX10_basisCoefficient 2 = .ok (.iload_n 2, 1) := by decide +kernel
theorem dX10_basisCoefficient_3 : decode cX10_basisCoefficient 3 = .ok (.invokevirtual 210, 3) := by decide +kernel
theorem dX10_basisCoefficient_6 : decode cX10_basisCoefficient 6 = .ok (.ifCond .eq 22, 3) := by decide +kernel
theorem dX10_basisCoefficient_9 : decode cX10_basisCoefficient 9 = .ok (.iload_n 3, 1) := by decide +kernel
theorem dX10_basisCoefficient_10 : decode cX10_basisCoefficient 10 = .ok (.invokestatic 176, 3) := by decide +kernel
theorem dX10_basisCoefficient_13 : decode cX10_basisCoefficient 13 = .ok (.ifCond .eq 15, 3) := by decide +kernel
theorem dX10_basisCoefficient_16 : decode cX10_basisCoefficient 16 = .ok (.iload 4, 2) := by decide +kernel
theorem dX10_basisCoefficient_18 : decode cX10_basisCoefficient 18 = .ok (.invokestatic 176, 3) := by decide +kernel
theorem dX10_basisCoefficient_21 : decode cX10_basisCoefficient 21 = .ok (.ifCond .eq 7, 3) := by decide +kernel
theorem dX10_basisCoefficient_24 : decode cX10_basisCoefficient 24 = .ok (.iconst 1, 1) := by decide +kernel
theorem dX10_basisCoefficient_25 : decode cX10_basisCoefficient 25 = .ok (.goto 4, 3) := by decide +kernel
theorem dX10_basisCoefficient_28 : decode cX10_basisCoefficient 28 = .ok (.iconst 0, 1) := by decide +kernel
theorem dX10_basisCoefficient_29 : decode cX10_basisCoefficient 29 = .ok (.istore 5, 2) := by decide +kernel
theorem dX10_basisCoefficient_31 : decode cX10_basisCoefficient 31 = .ok (.iload 5, 2) := by decide +kernel
theorem dX10_basisCoefficient_33 : decode cX10_basisCoefficient 33 = .ok (.ifCond .eq 19, 3) := by decide +kernel
theorem dX10_basisCoefficient_36 : decode cX10_basisCoefficient 36 = .ok (.aload_n 0, 1) := by decide +kernel
theorem dX10_basisCoefficient_37 : decode cX10_basisCoefficient 37 = .ok (.iload_n 1, 1) := by decide +kernel
theorem dX10_basisCoefficient_38 : decode cX10_basisCoefficient 38 = .ok (.iload_n 2, 1) := by decide +kernel
theorem dX10_basisCoefficient_39 : decode cX10_basisCoefficient 39 = .ok (.bipush 9, 2) := by decide +kernel
theorem dX10_basisCoefficient_41 : decode cX10_basisCoefficient 41 = .ok (.iload_n 3, 1) := by decide +kernel
theorem dX10_basisCoefficient_42 : decode cX10_basisCoefficient 42 = .ok (.imul, 1) := by decide +kernel
theorem dX10_basisCoefficient_43 : decode cX10_basisCoefficient 43 = .ok (.iload 4, 2) := by decide +kernel
theorem dX10_basisCoefficient_45 : decode cX10_basisCoefficient 45 = .ok (.iadd, 1) := by decide +kernel
theorem dX10_basisCoefficient_46 : decode cX10_basisCoefficient 46 = .ok (.invokevirtual 213, 3) := by decide +kernel
theorem dX10_basisCoefficient_49 : decode cX10_basisCoefficient 49 = .ok (.goto 4, 3) := by decide +kernel
theorem dX10_basisCoefficient_52 : decode cX10_basisCoefficient 52 = .ok (.iconst (-1), 1) := by decide +kernel
theorem dX10_basisCoefficient_53 : decode cX10_basisCoefficient 53 = .ok (.ireturn, 1) := by decide +kernel
theorem dX10_changedCorners_0 : decode cX10_changedCorners 0 = .ok (.aload_n 0, 1) := by decide +kernel
theorem dX10_changedCorners_1 : decode cX10_changedCorners 1 = .ok (.iload_n 1, 1) := by decide +kernel
theorem dX10_changedCorners_2 : decode cX10_changedCorners 2 = .ok (.invokevirtual 204, 3) := by decide +kernel
theorem dX10_changedCorners_5 : decode cX10_changedCorners 5 = .ok (.ifCond .ne 5, 3) := by decide +kernel
theorem dX10_changedCorners_8 : decode cX10_changedCorners 8 = .ok (.iconst (-1), 1) := by decide +kernel
theorem dX10_changedCorners_9 : decode cX10_changedCorners 9 = .ok (.ireturn, 1) := by decide +kernel
theorem dX10_changedCorners_10 : decode cX10_changedCorners 10 = .ok (.aload_n 0, 1) := by decide +kernel
theorem dX10_changedCorners_11 : decode cX10_changedCorners 11 = .ok (.getfield 60, 3) := by decide +kernel
theorem dX10_changedCorners_14 : decode cX10_changedCorners 14 = .ok (.iload_n 1, 1) := by decide +kernel
theorem dX10_changedCorners_15 : decode cX10_changedCorners 15 = .ok (.iaload, 1) := by decide +kernel
theorem dX10_changedCorners_16 : decode cX10_changedCorners 16 = .ok (.ifCond .ne 6, 3) := by decide +kernel
theorem dX10_changedCorners_19 : decode cX10_changedCorners 19 = .ok (.bipush (-5), 2) := by decide +kernel
theorem dX10_changedCorners_21 : decode cX10_changedCorners 21 = .ok (.ireturn, 1) := by decide +kernel
theorem dX10_changedCorners_22 : decode cX10_changedCorners 22 = .ok (.iconst 0, 1) := by decide +kernel
theorem dX10_changedCorners_23 : decode cX10_changedCorners 23 = .ok (.istore_n 2, 1) := by decide +kernel
theorem dX10_changedCorners_24 : decode cX10_changedCorners 24 = .ok (.iconst 0, 1) := by decide +kernel
theorem dX10_changedCorners_25 : decode cX10_changedCorners 25 = .ok (.istore_n 3, 1) := by decide +kernel
theorem dX10_changedCorners_26 : decode cX10_changedCorners 26 = .ok (.iload_n 3, 1) := by decide +kernel
theorem dX10_changedCorners_27 : decode cX10_changedCorners 27 = .ok (.aload_n 0, 1) := by decide +kernel
theorem dX10_changedCorners_28 : decode cX10_changedCorners 28 = .ok (.getfield 63, 3) := by decide +kernel
theorem dX10_changedCorners_31 : decode cX10_changedCorners 31 = .ok (.iload_n 1, 1) := by decide +kernel
theorem dX10_changedCorners_32 : decode cX10_changedCorners 32 = .ok (.iaload, 1) := by decide +kernel
theorem dX10_changedCorners_33 : decode cX10_changedCorners 33 = .ok (.if_icmp .ge 87, 3) := by decide +kernel
theorem dX10_changedCorners_36 : decode cX10_changedCorners 36 = .ok (.iconst 0, 1) := by decide +kernel
theorem dX10_changedCorners_37 : decode cX10_changedCorners 37 = .ok (.istore 4, 2) := by decide +kernel
theorem dX10_changedCorners_39 : decode cX10_changedCorners 39 = .ok (.iconst 0, 1) := by decide +kernel
theorem dX10_changedCorners_40 : decode cX10_changedCorners 40 = .ok (.istore 5, 2) := by decide +kernel
theorem dX10_changedCorners_42 : decode cX10_changedCorners 42 = .ok (.iload 5, 2) := by decide +kernel
theorem dX10_changedCorners_44 : decode cX10_changedCorners 44 = .ok (.aload_n 0, 1) := by decide +kernel
theorem dX10_changedCorners_45 : decode cX10_changedCorners 45 = .ok (.getfield 63, 3) := by decide +kernel
theorem dX10_changedCorners_48 : decode cX10_changedCorners 48 = .ok (.iload_n 1, 1) := by decide +kernel
theorem dX10_changedCorners_49 : decode cX10_changedCorners 49 = .ok (.iconst 1, 1) := by decide +kernel
theorem dX10_changedCorners_50 : decode cX10_changedCorners 50 = .ok (.iadd, 1) := by decide +kernel
theorem dX10_changedCorners_51 : decode cX10_changedCorners 51 = .ok (.iaload, 1) := by decide +kernel
theorem dX10_changedCorners_52 : decode cX10_changedCorners 52 = .ok (.if_icmp .ge 49, 3) := by decide +kernel
theorem dX10_changedCorners_55 : decode cX10_changedCorners 55 = .ok (.iload 4, 2) := by decide +kernel
theorem dX10_changedCorners_57 : decode cX10_changedCorners 57 = .ok (.ifCond .ne 31, 3) := by decide +kernel
theorem dX10_changedCorners_60 : decode cX10_changedCorners 60 = .ok (.aload_n 0, 1) := by decide +kernel
theorem dX10_changedCorners_61 : decode cX10_changedCorners 61 = .ok (.getfield 69, 3) := by decide +kernel
theorem dX10_changedCorners_64 : decode cX10_changedCorners 64 = .ok (.bipush 9, 2) := by decide +kernel
theorem dX10_changedCorners_66 : decode cX10_changedCorners 66 = .ok (.iload_n 1, 1) := by decide +kernel
theorem dX10_changedCorners_67 : decode cX10_changedCorners 67 = .ok (.imul, 1) := by decide +kernel
theorem dX10_changedCorners_68 : decode cX10_changedCorners 68 = .ok (.iload_n 3, 1) := by decide +kernel
theorem dX10_changedCorners_69 : decode cX10_changedCorners 69 = .ok (.iadd, 1) := by decide +kernel
theorem dX10_changedCorners_70 : decode cX10_changedCorners 70 = .ok (.iaload, 1) := by decide +kernel
theorem dX10_changedCorners_71 : decode cX10_changedCorners 71 = .ok (.aload_n 0, 1) := by decide +kernel
theorem dX10_changedCorners_72 : decode cX10_changedCorners 72 = .ok (.getfield 69, 3) := by decide +kernel
theorem dX10_changedCorners_75 : decode cX10_changedCorners 75 = .ok (.bipush 9, 2) := by decide +kernel
theorem dX10_changedCorners_77 : decode cX10_changedCorners 77 = .ok (.iload_n 1, 1) := by decide +kernel
theorem dX10_changedCorners_78 : decode cX10_changedCorners 78 = .ok (.iconst 1, 1) := by decide +kernel
theorem dX10_changedCorners_79 : decode cX10_changedCorners 79 = .ok (.iadd, 1) := by decide +kernel
theorem dX10_changedCorners_80 : decode cX10_changedCorners 80 = .ok (.imul, 1) := by decide +kernel
theorem dX10_changedCorners_81 : decode cX10_changedCorners 81 = .ok (.iload 5, 2) := by decide +kernel
theorem dX10_changedCorners_83 : decode cX10_changedCorners 83 = .ok (.iadd, 1) := by decide +kernel
theorem dX10_changedCorners_84 : decode cX10_changedCorners 84 = .ok (.iaload, 1) := by decide +kernel
theorem dX10_changedCorners_85 : decode cX10_changedCorners 85 = .ok (.if_icmp .ne 7, 3) := by decide +kernel
theorem dX10_changedCorners_88 : decode cX10_changedCorners 88 = .ok (.iconst 1, 1) := by decide +kernel
theorem dX10_changedCorners_89 : decode cX10_changedCorners 89 = .ok (.goto 4, 3) := by decide +kernel
theorem dX10_changedCorners_92 : decode cX10_changedCorners 92 = .ok (.iconst 0, 1) := by decide +kernel
theorem dX10_changedCorners_93 : decode cX10_changedCorners 93 = .ok (.istore 4, 2) := by decide +kernel
theorem dX10_changedCorners_95 : decode cX10_changedCorners 95 = .ok (.iinc 5 1, 3) := by decide +kernel
theorem dX10_changedCorners_98 : decode cX10_changedCorners 98 = .ok (.goto (-56), 3) := by decide +kernel
theorem dX10_changedCorners_101 : decode cX10_changedCorners 101 = .ok (.iload_n 2, 1) := by decide +kernel
theorem dX10_changedCorners_102 : decode cX10_changedCorners 102 = .ok (.iload 4, 2) := by decide +kernel
theorem dX10_changedCorners_104 : decode cX10_changedCorners 104 = .ok (.ifCond .eq 7, 3) := by decide +kernel
theorem dX10_changedCorners_107 : decode cX10_changedCorners 107 = .ok (.iconst 0, 1) := by decide +kernel
theorem dX10_changedCorners_108 : decode cX10_changedCorners 108 = .ok (.goto 4, 3) := by decide +kernel
theorem dX10_changedCorners_111 : decode cX10_changedCorners 111 = .ok (.iconst 1, 1) := by decide +kernel
theorem dX10_changedCorners_112 : decode cX10_changedCorners 112 = .ok (.iadd, 1) := by decide +kernel
theorem dX10_changedCorners_113 : decode cX10_changedCorners 113 = .ok (.istore_n 2, 1) := by decide +kernel
theorem dX10_changedCorners_114 : decode cX10_changedCorners 114 = .ok (.iinc 3 1, 3) := by decide +kernel
theorem dX10_changedCorners_117 : decode cX10_changedCorners 117 = .ok (.goto (-91), 3) := by decide +kernel
theorem dX10_changedCorners_120 : decode cX10_changedCorners 120 = .ok (.iload_n 2, 1) := by decide +kernel
theorem dX10_changedCorners_121 : decode cX10_changedCorners 121 = .ok (.ireturn, 1) := by decide +kernel
theorem dX10_isSame_0 : decode cX10_isSame 0 = .ok (.iconst 1, 1) := by decide +kernel
theorem dX10_isSame_1 : decode cX10_isSame 1 = .ok (.istore 5, 2) := by decide +kernel
theorem dX10_isSame_3 : decode cX10_isSame 3 = .ok (.iconst 0, 1) := by decide +kernel
theorem dX10_isSame_4 : decode cX10_isSame 4 = .ok (.istore 6, 2) := by decide +kernel
theorem dX10_isSame_6 : decode cX10_isSame 6 = .ok (.iload 6, 2) := by decide +kernel
theorem dX10_isSame_8 : decode cX10_isSame 8 = .ok (.bipush 81, 2) := by decide +kernel
theorem dX10_isSame_10 : decode cX10_isSame 10 = .ok (.if_icmp .ge 41, 3) := by decide +kernel
theorem dX10_isSame_13 : decode cX10_isSame 13 = .ok (.iload 5, 2) := by decide +kernel
theorem dX10_isSame_15 : decode cX10_isSame 15 = .ok (.ifCond .eq 27, 3) := by decide +kernel
theorem dX10_isSame_18 : decode cX10_isSame 18 = .ok (.aload_n 0, 1) := by decide +kernel
theorem dX10_isSame_19 : decode cX10_isSame 19 = .ok (.iload_n 1, 1) := by decide +kernel
theorem dX10_isSame_20 : decode cX10_isSame 20 = .ok (.iload_n 2, 1) := by decide +kernel
theorem dX10_isSame_21 : decode cX10_isSame 21 = .ok (.iload 6, 2) := by decide +kernel
theorem dX10_isSame_23 : decode cX10_isSame 23 = .ok (.invokevirtual 213, 3) := by decide +kernel
theorem dX10_isSame_26 : decode cX10_isSame 26 = .ok (.aload_n 0, 1) := by decide +kernel
theorem dX10_isSame_27 : decode cX10_isSame 27 = .ok (.iload_n 3, 1) := by decide +kernel
theorem dX10_isSame_28 : decode cX10_isSame 28 = .ok (.iload 4, 2) := by decide +kernel
theorem dX10_isSame_30 : decode cX10_isSame 30 = .ok (.iload 6, 2) := by decide +kernel
theorem dX10_isSame_32 : decode cX10_isSame 32 = .ok (.invokevirtual 213, 3) := by decide +kernel
theorem dX10_isSame_35 : decode cX10_isSame 35 = .ok (.if_icmp .ne 7, 3) := by decide +kernel
theorem dX10_isSame_38 : decode cX10_isSame 38 = .ok (.iconst 1, 1) := by decide +kernel
theorem dX10_isSame_39 : decode cX10_isSame 39 = .ok (.goto 4, 3) := by decide +kernel
theorem dX10_isSame_42 : decode cX10_isSame 42 = .ok (.iconst 0, 1) := by decide +kernel
theorem dX10_isSame_43 : decode cX10_isSame 43 = .ok (.istore 5, 2) := by decide +kernel
theorem dX10_isSame_45 : decode cX10_isSame 45 = .ok (.iinc 6 1, 3) := by decide +kernel
theorem dX10_isSame_48 : decode cX10_isSame 48 = .ok (.goto (-42), 3) := by decide +kernel
theorem dX10_isSame_51 : decode cX10_isSame 51 = .ok (.iload 5, 2) := by decide +kernel
theorem dX10_isSame_53 : decode cX10_isSame 53 = .ok (.ireturn, 1) := by decide +kernel
theorem dX10_isNew_0 : decode cX10_isNew 0 = .ok (.iconst 1, 1) := by decide +kernel
theorem dX10_isNew_1 : decode cX10_isNew 1 = .ok (.istore_n 3, 1) := by decide +kernel
theorem dX10_isNew_2 : decode cX10_isNew 2 = .ok (.iconst 0, 1) := by decide +kernel
theorem dX10_isNew_3 : decode cX10_isNew 3 = .ok (.istore 4, 2) := by decide +kernel
theorem dX10_isNew_5 : decode cX10_isNew 5 = .ok (.iload 4, 2) := by decide +kernel
theorem dX10_isNew_7 : decode cX10_isNew 7 = .ok (.iload_n 1, 1) := by decide +kernel
theorem dX10_isNew_8 : decode cX10_isNew 8 = .ok (.if_icmp .ge 53, 3) := by decide +kernel
theorem dX10_isNew_11 : decode cX10_isNew 11 = .ok (.iconst 0, 1) := by decide +kernel
theorem dX10_isNew_12 : decode cX10_isNew 12 = .ok (.istore 5, 2) := by decide +kernel
theorem dX10_isNew_14 : decode cX10_isNew 14 = .ok (.iload 5, 2) := by decide +kernel
theorem dX10_isNew_16 : decode cX10_isNew 16 = .ok (.aload_n 0, 1) := by decide +kernel
theorem dX10_isNew_17 : decode cX10_isNew 17 = .ok (.getfield 63, 3) := by decide +kernel
theorem dX10_isNew_20 : decode cX10_isNew 20 = .ok (.iload 4, 2) := by decide +kernel
theorem dX10_isNew_22 : decode cX10_isNew 22 = .ok (.iaload, 1) := by decide +kernel
theorem dX10_isNew_23 : decode cX10_isNew 23 = .ok (.if_icmp .ge 32, 3) := by decide +kernel
theorem dX10_isNew_26 : decode cX10_isNew 26 = .ok (.iload_n 3, 1) := by decide +kernel
theorem dX10_isNew_27 : decode cX10_isNew 27 = .ok (.ifCond .eq 20, 3) := by decide +kernel
theorem dX10_isNew_30 : decode cX10_isNew 30 = .ok (.aload_n 0, 1) := by decide +kernel
theorem dX10_isNew_31 : decode cX10_isNew 31 = .ok (.iload_n 1, 1) := by decide +kernel
theorem dX10_isNew_32 : decode cX10_isNew 32 = .ok (.iload_n 2, 1) := by decide +kernel
theorem dX10_isNew_33 : decode cX10_isNew 33 = .ok (.iload 4, 2) := by decide +kernel
theorem dX10_isNew_35 : decode cX10_isNew 35 = .ok (.iload 5, 2) := by decide +kernel
theorem dX10_isNew_37 : decode cX10_isNew 37 = .ok (.invokevirtual 217, 3) := by decide +kernel
theorem dX10_isNew_40 : decode cX10_isNew 40 = .ok (.ifCond .ne 7, 3) := by decide +kernel
theorem dX10_isNew_43 : decode cX10_isNew 43 = .ok (.iconst 1, 1) := by decide +kernel
theorem dX10_isNew_44 : decode cX10_isNew 44 = .ok (.goto 4, 3) := by decide +kernel
theorem dX10_isNew_47 : decode cX10_isNew 47 = .ok (.iconst 0, 1) := by decide +kernel
theorem dX10_isNew_48 : decode cX10_isNew 48 = .ok (.istore_n 3, 1) := by decide +kernel
theorem dX10_isNew_49 : decode cX10_isNew 49 = .ok (.iinc 5 1, 3) := by decide +kernel
theorem dX10_isNew_52 : decode cX10_isNew 52 = .ok (.goto (-38), 3) := by decide +kernel
theorem dX10_isNew_55 : decode cX10_isNew 55 = .ok (.iinc 4 1, 3) := by decide +kernel
theorem dX10_isNew_58 : decode cX10_isNew 58 = .ok (.goto (-53), 3) := by decide +kernel
theorem dX10_isNew_61 : decode cX10_isNew 61 = .ok (.iload_n 3, 1) := by decide +kernel
theorem dX10_isNew_62 : decode cX10_isNew 62 = .ok (.ireturn, 1) := by decide +kernel
theorem dX10_universalSize_0 : decode cX10_universalSize 0 = .ok (.aload_n 0, 1) := by decide +kernel
theorem dX10_universalSize_1 : decode cX10_universalSize 1 = .ok (.invokevirtual 201, 3) := by decide +kernel
theorem dX10_universalSize_4 : decode cX10_universalSize 4 = .ok (.iconst 0, 1) := by decide +kernel
theorem dX10_universalSize_5 : decode cX10_universalSize 5 = .ok (.istore_n 1, 1) := by decide +kernel
theorem dX10_universalSize_6 : decode cX10_universalSize 6 = .ok (.iconst 0, 1) := by decide +kernel
theorem dX10_universalSize_7 : decode cX10_universalSize 7 = .ok (.istore_n 2, 1) := by decide +kernel
theorem dX10_universalSize_8 : decode cX10_universalSize 8 = .ok (.iload_n 2, 1) := by decide +kernel
theorem dX10_universalSize_9 : decode cX10_universalSize 9 = .ok (.aload_n 0, 1) := by decide +kernel
theorem dX10_universalSize_10 : decode cX10_universalSize 10 = .ok (.getfield 195, 3) := by decide +kernel
theorem dX10_universalSize_13 : decode cX10_universalSize 13 = .ok (.if_icmp .ge 44, 3) := by decide +kernel
theorem dX10_universalSize_16 : decode cX10_universalSize 16 = .ok (.iconst 0, 1) := by decide +kernel
theorem dX10_universalSize_17 : decode cX10_universalSize 17 = .ok (.istore_n 3, 1) := by decide +kernel
theorem dX10_universalSize_18 : decode cX10_universalSize 18 = .ok (.iload_n 3, 1) := by decide +kernel
theorem dX10_universalSize_19 : decode cX10_universalSize 19 = .ok (.aload_n 0, 1) := by decide +kernel
theorem dX10_universalSize_20 : decode cX10_universalSize 20 = .ok (.getfield 63, 3) := by decide +kernel
theorem dX10_universalSize_23 : decode cX10_universalSize 23 = .ok (.iload_n 2, 1) := by decide +kernel
theorem dX10_universalSize_24 : decode cX10_universalSize 24 = .ok (.iaload, 1) := by decide +kernel
theorem dX10_universalSize_25 : decode cX10_universalSize 25 = .ok (.if_icmp .ge 26, 3) := by decide +kernel
theorem dX10_universalSize_28 : decode cX10_universalSize 28 = .ok (.iload_n 1, 1) := by decide +kernel
theorem dX10_universalSize_29 : decode cX10_universalSize 29 = .ok (.aload_n 0, 1) := by decide +kernel
theorem dX10_universalSize_30 : decode cX10_universalSize 30 = .ok (.iload_n 2, 1) := by decide +kernel
theorem dX10_universalSize_31 : decode cX10_universalSize 31 = .ok (.iload_n 3, 1) := by decide +kernel
theorem dX10_universalSize_32 : decode cX10_universalSize 32 = .ok (.invokevirtual 221, 3) := by decide +kernel
theorem dX10_universalSize_35 : decode cX10_universalSize 35 = .ok (.ifCond .eq 7, 3) := by decide +kernel
theorem dX10_universalSize_38 : decode cX10_universalSize 38 = .ok (.iconst 1, 1) := by decide +kernel
theorem dX10_universalSize_39 : decode cX10_universalSize 39 = .ok (.goto 4, 3) := by decide +kernel
theorem dX10_universalSize_42 : decode cX10_universalSize 42 = .ok (.iconst 0, 1) := by decide +kernel
theorem dX10_universalSize_43 : decode cX10_universalSize 43 = .ok (.iadd, 1) := by decide +kernel
theorem dX10_universalSize_44 : decode cX10_universalSize 44 = .ok (.istore_n 1, 1) := by decide +kernel
theorem dX10_universalSize_45 : decode cX10_universalSize 45 = .ok (.iinc 3 1, 3) := by decide +kernel
theorem dX10_universalSize_48 : decode cX10_universalSize 48 = .ok (.goto (-30), 3) := by decide +kernel
theorem dX10_universalSize_51 : decode cX10_universalSize 51 = .ok (.iinc 2 1, 3) := by decide +kernel
theorem dX10_universalSize_54 : decode cX10_universalSize 54 = .ok (.goto (-46), 3) := by decide +kernel
theorem dX10_universalSize_57 : decode cX10_universalSize 57 = .ok (.iload_n 1, 1) := by decide +kernel
theorem dX10_universalSize_58 : decode cX10_universalSize 58 = .ok (.ireturn, 1) := by decide +kernel
theorem dX10_universalDegree_0 : decode cX10_universalDegree 0 = .ok (.aload_n 0, 1) := by decide +kernel
theorem dX10_universalDegree_1 : decode cX10_universalDegree 1 = .ok (.invokevirtual 201, 3) := by decide +kernel
theorem dX10_universalDegree_4 : decode cX10_universalDegree 4 = .ok (.iconst 0, 1) := by decide +kernel
theorem dX10_universalDegree_5 : decode cX10_universalDegree 5 = .ok (.istore_n 1, 1) := by decide +kernel
theorem dX10_universalDegree_6 : decode cX10_universalDegree 6 = .ok (.iconst 0, 1) := by decide +kernel
theorem dX10_universalDegree_7 : decode cX10_universalDegree 7 = .ok (.istore_n 2, 1) := by decide +kernel
theorem dX10_universalDegree_8 : decode cX10_universalDegree 8 = .ok (.iload_n 2, 1) := by decide +kernel
theorem dX10_universalDegree_9 : decode cX10_universalDegree 9 = .ok (.aload_n 0, 1) := by decide +kernel
theorem dX10_universalDegree_10 : decode cX10_universalDegree 10 = .ok (.getfield 195, 3) := by decide +kernel
theorem dX10_universalDegree_13 : decode cX10_universalDegree 13 = .ok (.if_icmp .ge 74, 3) := by decide +kernel
theorem dX10_universalDegree_16 : decode cX10_universalDegree 16 = .ok (.iconst 0, 1) := by decide +kernel
theorem dX10_universalDegree_17 : decode cX10_universalDegree 17 = .ok (.istore_n 3, 1) := by decide +kernel
theorem dX10_universalDegree_18 : decode cX10_universalDegree 18 = .ok (.iload_n 3, 1) := by decide +kernel
theorem dX10_universalDegree_19 : decode cX10_universalDegree 19 = .ok (.aload_n 0, 1) := by decide +kernel
theorem dX10_universalDegree_20 : decode cX10_universalDegree 20 = .ok (.getfield 63, 3) := by decide +kernel
theorem dX10_universalDegree_23 : decode cX10_universalDegree 23 = .ok (.iload_n 2, 1) := by decide +kernel
theorem dX10_universalDegree_24 : decode cX10_universalDegree 24 = .ok (.iaload, 1) := by decide +kernel
theorem dX10_universalDegree_25 : decode cX10_universalDegree 25 = .ok (.if_icmp .ge 56, 3) := by decide +kernel
theorem dX10_universalDegree_28 : decode cX10_universalDegree 28 = .ok (.iconst 0, 1) := by decide +kernel
theorem dX10_universalDegree_29 : decode cX10_universalDegree 29 = .ok (.istore 4, 2) := by decide +kernel
theorem dX10_universalDegree_31 : decode cX10_universalDegree 31 = .ok (.iload 4, 2) := by decide +kernel
theorem dX10_universalDegree_33 : decode cX10_universalDegree 33 = .ok (.bipush 81, 2) := by decide +kernel
theorem dX10_universalDegree_35 : decode cX10_universalDegree 35 = .ok (.if_icmp .ge 40, 3) := by decide +kernel
theorem dX10_universalDegree_38 : decode cX10_universalDegree 38 = .ok (.aload_n 0, 1) := by decide +kernel
theorem dX10_universalDegree_39 : decode cX10_universalDegree 39 = .ok (.iload_n 2, 1) := by decide +kernel
theorem dX10_universalDegree_40 : decode cX10_universalDegree 40 = .ok (.iload_n 3, 1) := by decide +kernel
theorem dX10_universalDegree_41 : decode cX10_universalDegree 41 = .ok (.iload 4, 2) := by decide +kernel
theorem dX10_universalDegree_43 : decode cX10_universalDegree 43 = .ok (.invokevirtual 213, 3) := by decide +kernel
theorem dX10_universalDegree_46 : decode cX10_universalDegree 46 = .ok (.ifCond .eq 21, 3) := by decide +kernel
theorem dX10_universalDegree_49 : decode cX10_universalDegree 49 = .ok (.iload_n 1, 1) := by decide +kernel
theorem dX10_universalDegree_50 : decode cX10_universalDegree 50 = .ok (.iload 4, 2) := by decide +kernel
theorem dX10_universalDegree_52 : decode cX10_universalDegree 52 = .ok (.bipush 9, 2) := by decide +kernel
theorem dX10_universalDegree_54 : decode cX10_universalDegree 54 = .ok (.idiv, 1) := by decide +kernel
theorem dX10_universalDegree_55 : decode cX10_universalDegree 55 = .ok (.iload 4, 2) := by decide +kernel
theorem dX10_universalDegree_57 : decode cX10_universalDegree 57 = .ok (.bipush 9, 2) := by decide +kernel
theorem dX10_universalDegree_59 : decode cX10_universalDegree 59 = .ok (.irem, 1) := by decide +kernel
theorem dX10_universalDegree_60 : decode cX10_universalDegree 60 = .ok (.iadd, 1) := by decide +kernel
theorem dX10_universalDegree_61 : decode cX10_universalDegree 61 = .ok (.invokestatic 224, 3) := by decide +kernel
theorem dX10_universalDegree_64 : decode cX10_universalDegree 64 = .ok (.goto 4, 3) := by decide +kernel
theorem dX10_universalDegree_67 : decode cX10_universalDegree 67 = .ok (.iload_n 1, 1) := by decide +kernel
theorem dX10_universalDegree_68 : decode cX10_universalDegree 68 = .ok (.istore_n 1, 1) := by decide +kernel
theorem dX10_universalDegree_69 : decode cX10_universalDegree 69 = .ok (.iinc 4 1, 3) := by decide +kernel
theorem dX10_universalDegree_72 : decode cX10_universalDegree 72 = .ok (.goto (-41), 3) := by decide +kernel
theorem dX10_universalDegree_75 : decode cX10_universalDegree 75 = .ok (.iinc 3 1, 3) := by decide +kernel
theorem dX10_universalDegree_78 : decode cX10_universalDegree 78 = .ok (.goto (-60), 3) := by decide +kernel
theorem dX10_universalDegree_81 : decode cX10_universalDegree 81 = .ok (.iinc 2 1, 3) := by decide +kernel
theorem dX10_universalDegree_84 : decode cX10_universalDegree 84 = .ok (.goto (-76), 3) := by decide +kernel
theorem dX10_universalDegree_87 : decode cX10_universalDegree 87 = .ok (.iload_n 1, 1) := by decide +kernel
theorem dX10_universalDegree_88 : decode cX10_universalDegree 88 = .ok (.ireturn, 1) := by decide +kernel
theorem dX10_isMirrored_0 : decode cX10_isMirrored 0 = .ok (.iconst 1, 1) := by decide +kernel
theorem dX10_isMirrored_1 : decode cX10_isMirrored 1 = .ok (.istore_n 3, 1) := by decide +kernel
theorem dX10_isMirrored_2 : decode cX10_isMirrored 2 = .ok (.iconst 0, 1) := by decide +kernel
theorem dX10_isMirrored_3 : decode cX10_isMirrored 3 = .ok (.istore 4, 2) := by decide +kernel
theorem dX10_isMirrored_5 : decode cX10_isMirrored 5 = .ok (.iload 4, 2) := by decide +kernel
theorem dX10_isMirrored_7 : decode cX10_isMirrored 7 = .ok (.bipush 9, 2) := by decide +kernel
theorem dX10_isMirrored_9 : decode cX10_isMirrored 9 = .ok (.if_icmp .ge 82, 3) := by decide +kernel
theorem dX10_isMirrored_12 : decode cX10_isMirrored 12 = .ok (.iconst 0, 1) := by decide +kernel
theorem dX10_isMirrored_13 : decode cX10_isMirrored 13 = .ok (.istore 5, 2) := by decide +kernel
theorem dX10_isMirrored_15 : decode cX10_isMirrored 15 = .ok (.iload 5, 2) := by decide +kernel
theorem dX10_isMirrored_17 : decode cX10_isMirrored 17 = .ok (.bipush 9, 2) := by decide +kernel
theorem dX10_isMirrored_19 : decode cX10_isMirrored 19 = .ok (.if_icmp .ge 66, 3) := by decide +kernel
theorem dX10_isMirrored_22 : decode cX10_isMirrored 22 = .ok (.iload_n 3, 1) := by decide +kernel
theorem dX10_isMirrored_23 : decode cX10_isMirrored 23 = .ok (.ifCond .eq 54, 3) := by decide +kernel
theorem dX10_isMirrored_26 : decode cX10_isMirrored 26 = .ok (.iload 5, 2) := by decide +kernel
theorem dX10_isMirrored_28 : decode cX10_isMirrored 28 = .ok (.aload_n 0, 1) := by decide +kernel
theorem dX10_isMirrored_29 : decode cX10_isMirrored 29 = .ok (.getfield 66, 3) := by decide +kernel
theorem dX10_isMirrored_32 : decode cX10_isMirrored 32 = .ok (.bipush 9, 2) := by decide +kernel
theorem dX10_isMirrored_34 : decode cX10_isMirrored 34 = .ok (.iload_n 1, 1) := by decide +kernel
theorem dX10_isMirrored_35 : decode cX10_isMirrored 35 = .ok (.imul, 1) := by decide +kernel
theorem dX10_isMirrored_36 : decode cX10_isMirrored 36 = .ok (.iload 4, 2) := by decide +kernel
theorem dX10_isMirrored_38 : decode cX10_isMirrored 38 = .ok (.iadd, 1) := by decide +kernel
theorem dX10_isMirrored_39 : decode cX10_isMirrored 39 = .ok (.iaload, 1) := by decide +kernel
theorem dX10_isMirrored_40 : decode cX10_isMirrored 40 = .ok (.if_icmp .ge 7, 3) := by decide +kernel
theorem dX10_isMirrored_43 : decode cX10_isMirrored 43 = .ok (.iconst 1, 1) := by decide +kernel
theorem dX10_isMirrored_44 : decode cX10_isMirrored 44 = .ok (.goto 4, 3) := by decide +kernel
theorem dX10_isMirrored_47 : decode cX10_isMirrored 47 = .ok (.iconst 0, 1) := by decide +kernel
theorem dX10_isMirrored_48 : decode cX10_isMirrored 48 = .ok (.iload 4, 2) := by decide +kernel
theorem dX10_isMirrored_50 : decode cX10_isMirrored 50 = .ok (.aload_n 0, 1) := by decide +kernel
theorem dX10_isMirrored_51 : decode cX10_isMirrored 51 = .ok (.getfield 66, 3) := by decide +kernel
theorem dX10_isMirrored_54 : decode cX10_isMirrored 54 = .ok (.bipush 9, 2) := by decide +kernel
theorem dX10_isMirrored_56 : decode cX10_isMirrored 56 = .ok (.iload_n 2, 1) := by decide +kernel
theorem dX10_isMirrored_57 : decode cX10_isMirrored 57 = .ok (.imul, 1) := by decide +kernel
theorem dX10_isMirrored_58 : decode cX10_isMirrored 58 = .ok (.iload 5, 2) := by decide +kernel
theorem dX10_isMirrored_60 : decode cX10_isMirrored 60 = .ok (.iadd, 1) := by decide +kernel
theorem dX10_isMirrored_61 : decode cX10_isMirrored 61 = .ok (.iaload, 1) := by decide +kernel
theorem dX10_isMirrored_62 : decode cX10_isMirrored 62 = .ok (.if_icmp .ge 7, 3) := by decide +kernel
theorem dX10_isMirrored_65 : decode cX10_isMirrored 65 = .ok (.iconst 1, 1) := by decide +kernel
theorem dX10_isMirrored_66 : decode cX10_isMirrored 66 = .ok (.goto 4, 3) := by decide +kernel
theorem dX10_isMirrored_69 : decode cX10_isMirrored 69 = .ok (.iconst 0, 1) := by decide +kernel
theorem dX10_isMirrored_70 : decode cX10_isMirrored 70 = .ok (.if_icmp .ne 7, 3) := by decide +kernel
theorem dX10_isMirrored_73 : decode cX10_isMirrored 73 = .ok (.iconst 1, 1) := by decide +kernel
theorem dX10_isMirrored_74 : decode cX10_isMirrored 74 = .ok (.goto 4, 3) := by decide +kernel
theorem dX10_isMirrored_77 : decode cX10_isMirrored 77 = .ok (.iconst 0, 1) := by decide +kernel
theorem dX10_isMirrored_78 : decode cX10_isMirrored 78 = .ok (.istore_n 3, 1) := by decide +kernel
theorem dX10_isMirrored_79 : decode cX10_isMirrored 79 = .ok (.iinc 5 1, 3) := by decide +kernel
theorem dX10_isMirrored_82 : decode cX10_isMirrored 82 = .ok (.goto (-67), 3) := by decide +kernel
theorem dX10_isMirrored_85 : decode cX10_isMirrored 85 = .ok (.iinc 4 1, 3) := by decide +kernel
theorem dX10_isMirrored_88 : decode cX10_isMirrored 88 = .ok (.goto (-83), 3) := by decide +kernel
theorem dX10_isMirrored_91 : decode cX10_isMirrored 91 = .ok (.iload_n 3, 1) := by decide +kernel
theorem dX10_isMirrored_92 : decode cX10_isMirrored 92 = .ok (.ireturn, 1) := by decide +kernel
theorem dX10_mirroredCone_0 : decode cX10_mirroredCone 0 = .ok (.aload_n 0, 1) := by decide +kernel
theorem dX10_mirroredCone_1 : decode cX10_mirroredCone 1 = .ok (.iload_n 1, 1) := by decide +kernel
theorem dX10_mirroredCone_2 : decode cX10_mirroredCone 2 = .ok (.invokevirtual 204, 3) := by decide +kernel
theorem dX10_mirroredCone_5 : decode cX10_mirroredCone 5 = .ok (.ifCond .ne 5, 3) := by decide +kernel
theorem dX10_mirroredCone_8 : decode cX10_mirroredCone 8 = .ok (.iconst (-1), 1) := by decide +kernel
theorem dX10_mirroredCone_9 : decode cX10_mirroredCone 9 = .ok (.ireturn, 1) := by decide +kernel
theorem dX10_mirroredCone_10 : decode cX10_mirroredCone 10 = .ok (.iconst 0, 1) := by decide +kernel
theorem dX10_mirroredCone_11 : decode cX10_mirroredCone 11 = .ok (.istore_n 2, 1) := by decide +kernel
theorem dX10_mirroredCone_12 : decode cX10_mirroredCone 12 = .ok (.iload_n 2, 1) := by decide +kernel
theorem dX10_mirroredCone_13 : decode cX10_mirroredCone 13 = .ok (.aload_n 0, 1) := by decide +kernel
theorem dX10_mirroredCone_14 : decode cX10_mirroredCone 14 = .ok (.getfield 195, 3) := by decide +kernel
theorem dX10_mirroredCone_17 : decode cX10_mirroredCone 17 = .ok (.if_icmp .ge 20, 3) := by decide +kernel
theorem dX10_mirroredCone_20 : decode cX10_mirroredCone 20 = .ok (.aload_n 0, 1) := by decide +kernel
theorem dX10_mirroredCone_21 : decode cX10_mirroredCone 21 = .ok (.iload_n 1, 1) := by decide +kernel
theorem dX10_mirroredCone_22 : decode cX10_mirroredCone 22 = .ok (.iload_n 2, 1) := by decide +kernel
theorem dX10_mirroredCone_23 : decode cX10_mirroredCone 23 = .ok (.invokevirtual 227, 3) := by decide +kernel
theorem dX10_mirroredCone_26 : decode cX10_mirroredCone 26 = .ok (.ifCond .eq 5, 3) := by decide +kernel
theorem dX10_mirroredCone_29 : decode cX10_mirroredCone 29 = .ok (.iload_n 2, 1) := by decide +kernel
theorem dX10_mirroredCone_30 : decode cX10_mirroredCone 30 = .ok (.ireturn, 1) := by decide +kernel
theorem dX10_mirroredCone_31 : decode cX10_mirroredCone 31 = .ok (.iinc 2 1, 3) := by decide +kernel
theorem dX10_mirroredCone_34 : decode cX10_mirroredCone 34 = .ok (.goto (-22), 3) := by decide +kernel
theorem dX10_mirroredCone_37 : decode cX10_mirroredCone 37 = .ok (.bipush (-5), 2) := by decide +kernel
theorem dX10_mirroredCone_39 : decode cX10_mirroredCone 39 = .ok (.ireturn, 1) := by decide +kernel
theorem dX10_steepness_0 : decode cX10_steepness 0 = .ok (.iconst 0, 1) := by decide +kernel
theorem dX10_steepness_1 : decode cX10_steepness 1 = .ok (.istore_n 2, 1) := by decide +kernel
theorem dX10_steepness_2 : decode cX10_steepness 2 = .ok (.iconst 0, 1) := by decide +kernel
theorem dX10_steepness_3 : decode cX10_steepness 3 = .ok (.istore_n 3, 1) := by decide +kernel
theorem dX10_steepness_4 : decode cX10_steepness 4 = .ok (.iload_n 3, 1) := by decide +kernel
theorem dX10_steepness_5 : decode cX10_steepness 5 = .ok (.bipush 9, 2) := by decide +kernel
theorem dX10_steepness_7 : decode cX10_steepness 7 = .ok (.if_icmp .ge 42, 3) := by decide +kernel
theorem dX10_steepness_10 : decode cX10_steepness 10 = .ok (.aload_n 0, 1) := by decide +kernel
theorem dX10_steepness_11 : decode cX10_steepness 11 = .ok (.getfield 66, 3) := by decide +kernel
theorem dX10_steepness_14 : decode cX10_steepness 14 = .ok (.bipush 9, 2) := by decide +kernel
theorem dX10_steepness_16 : decode cX10_steepness 16 = .ok (.iload_n 1, 1) := by decide +kernel
theorem dX10_steepness_17 : decode cX10_steepness 17 = .ok (.imul, 1) := by decide +kernel
theorem dX10_steepness_18 : decode cX10_steepness 18 = .ok (.iload_n 3, 1) := by decide +kernel
theorem dX10_steepness_19 : decode cX10_steepness 19 = .ok (.iadd, 1) := by decide +kernel
theorem dX10_steepness_20 : decode cX10_steepness 20 = .ok (.iaload, 1) := by decide +kernel
theorem dX10_steepness_21 : decode cX10_steepness 21 = .ok (.istore 4, 2) := by decide +kernel
theorem dX10_steepness_23 : decode cX10_steepness 23 = .ok (.iload 4, 2) := by decide +kernel
theorem dX10_steepness_25 : decode cX10_steepness 25 = .ok (.ifCond .le 16, 3) := by decide +kernel
theorem dX10_steepness_28 : decode cX10_steepness 28 = .ok (.iload_n 2, 1) := by decide +kernel
theorem dX10_steepness_29 : decode cX10_steepness 29 = .ok (.iload_n 3, 1) := by decide +kernel
theorem dX10_steepness_30 : decode cX10_steepness 30 = .ok (.iload 4, 2) := by decide +kernel
theorem dX10_steepness_32 : decode cX10_steepness 32 = .ok (.iadd, 1) := by decide +kernel
theorem dX10_steepness_33 : decode cX10_steepness 33 = .ok (.iconst 1, 1) := by decide +kernel
theorem dX10_steepness_34 : decode cX10_steepness 34 = .ok (.isub, 1) := by decide +kernel
theorem dX10_steepness_35 : decode cX10_steepness 35 = .ok (.invokestatic 224, 3) := by decide +kernel
theorem dX10_steepness_38 : decode cX10_steepness 38 = .ok (.goto 4, 3) := by decide +kernel
theorem dX10_steepness_41 : decode cX10_steepness 41 = .ok (.iload_n 2, 1) := by decide +kernel
theorem dX10_steepness_42 : decode cX10_steepness 42 = .ok (.istore_n 2, 1) := by decide +kernel
theorem dX10_steepness_43 : decode cX10_steepness 43 = .ok (.iinc 3 1, 3) := by decide +kernel
theorem dX10_steepness_46 : decode cX10_steepness 46 = .ok (.goto (-42), 3) := by decide +kernel
theorem dX10_steepness_49 : decode cX10_steepness 49 = .ok (.iload_n 2, 1) := by decide +kernel
theorem dX10_steepness_50 : decode cX10_steepness 50 = .ok (.ireturn, 1) := by decide +kernel
theorem dX10_flattestCone_0 : decode cX10_flattestCone 0 = .ok (.aload_n 0, 1) := by decide +kernel
theorem dX10_flattestCone_1 : decode cX10_flattestCone 1 = .ok (.invokevirtual 201, 3) := by decide +kernel
theorem dX10_flattestCone_4 : decode cX10_flattestCone 4 = .ok (.iconst 0, 1) := by decide +kernel
theorem dX10_flattestCone_5 : decode cX10_flattestCone 5 = .ok (.istore_n 1, 1) := by decide +kernel
theorem dX10_flattestCone_6 : decode cX10_flattestCone 6 = .ok (.iconst 1, 1) := by decide +kernel
theorem dX10_flattestCone_7 : decode cX10_flattestCone 7 = .ok (.istore_n 2, 1) := by decide +kernel
theorem dX10_flattestCone_8 : decode cX10_flattestCone 8 = .ok (.iload_n 2, 1) := by decide +kernel
theorem dX10_flattestCone_9 : decode cX10_flattestCone 9 = .ok (.aload_n 0, 1) := by decide +kernel
theorem dX10_flattestCone_10 : decode cX10_flattestCone 10 = .ok (.getfield 195, 3) := by decide +kernel
theorem dX10_flattestCone_13 : decode cX10_flattestCone 13 = .ok (.if_icmp .ge 28, 3) := by decide +kernel
theorem dX10_flattestCone_16 : decode cX10_flattestCone 16 = .ok (.aload_n 0, 1) := by decide +kernel
theorem dX10_flattestCone_17 : decode cX10_flattestCone 17 = .ok (.iload_n 2, 1) := by decide +kernel
theorem dX10_flattestCone_18 : decode cX10_flattestCone 18 = .ok (.invokevirtual 230, 3) := by decide +kernel
theorem dX10_flattestCone_21 : decode cX10_flattestCone 21 = .ok (.aload_n 0, 1) := by decide +kernel
theorem dX10_flattestCone_22 : decode cX10_flattestCone 22 = .ok (.iload_n 1, 1) := by decide +kernel
theorem dX10_flattestCone_23 : decode cX10_flattestCone 23 = .ok (.invokevirtual 230, 3) := by decide +kernel
theorem dX10_flattestCone_26 : decode cX10_flattestCone 26 = .ok (.if_icmp .ge 7, 3) := by decide +kernel
theorem dX10_flattestCone_29 : decode cX10_flattestCone 29 = .ok (.iload_n 2, 1) := by decide +kernel
theorem dX10_flattestCone_30 : decode cX10_flattestCone 30 = .ok (.goto 4, 3) := by decide +kernel
theorem dX10_flattestCone_33 : decode cX10_flattestCone 33 = .ok (.iload_n 1, 1) := by decide +kernel
theorem dX10_flattestCone_34 : decode cX10_flattestCone 34 = .ok (.istore_n 1, 1) := by decide +kernel
theorem dX10_flattestCone_35 : decode cX10_flattestCone 35 = .ok (.iinc 2 1, 3) := by decide +kernel
theorem dX10_flattestCone_38 : decode cX10_flattestCone 38 = .ok (.goto (-30), 3) := by decide +kernel
theorem dX10_flattestCone_41 : decode cX10_flattestCone 41 = .ok (.iload_n 1, 1) := by decide +kernel
theorem dX10_flattestCone_42 : decode cX10_flattestCone 42 = .ok (.ireturn, 1) := by decide +kernel
theorem dX10_setCoefficient_0 : decode cX10_setCoefficient 0 = .ok (.iload_n 1, 1) := by decide +kernel
theorem dX10_setCoefficient_1 : decode cX10_setCoefficient 1 = .ok (.invokestatic 176, 3) := by decide +kernel
theorem dX10_setCoefficient_4 : decode cX10_setCoefficient 4 = .ok (.ifCond .eq 10, 3) := by decide +kernel
theorem dX10_setCoefficient_7 : decode cX10_setCoefficient 7 = .ok (.iload_n 2, 1) := by decide +kernel
theorem dX10_setCoefficient_8 : decode cX10_setCoefficient 8 = .ok (.invokestatic 176, 3) := by decide +kernel
theorem dX10_setCoefficient_11 : decode cX10_setCoefficient 11 = .ok (.ifCond .ne 5, 3) := by decide +kernel
theorem dX10_setCoefficient_14 : decode cX10_setCoefficient 14 = .ok (.iconst (-1), 1) := by decide +kernel
theorem dX10_setCoefficient_15 : decode cX10_setCoefficient 15 = .ok (.ireturn, 1) := by decide +kernel
theorem dX10_setCoefficient_16 : decode cX10_setCoefficient 16 = .ok (.aload_n 0, 1) := by decide +kernel
theorem dX10_setCoefficient_17 : decode cX10_setCoefficient 17 = .ok (.getfield 20, 3) := by decide +kernel
theorem dX10_setCoefficient_20 : decode cX10_setCoefficient 20 = .ok (.bipush 9, 2) := by decide +kernel
theorem dX10_setCoefficient_22 : decode cX10_setCoefficient 22 = .ok (.iload_n 1, 1) := by decide +kernel
theorem dX10_setCoefficient_23 : decode cX10_setCoefficient 23 = .ok (.imul, 1) := by decide +kernel
theorem dX10_setCoefficient_24 : decode cX10_setCoefficient 24 = .ok (.iload_n 2, 1) := by decide +kernel
theorem dX10_setCoefficient_25 : decode cX10_setCoefficient 25 = .ok (.iadd, 1) := by decide +kernel
theorem dX10_setCoefficient_26 : decode cX10_setCoefficient 26 = .ok (.iaload, 1) := by decide +kernel
theorem dX10_setCoefficient_27 : decode cX10_setCoefficient 27 = .ok (.istore 4, 2) := by decide +kernel
theorem dX10_setCoefficient_29 : decode cX10_setCoefficient 29 = .ok (.aload_n 0, 1) := by decide +kernel
theorem dX10_setCoefficient_30 : decode cX10_setCoefficient 30 = .ok (.getfield 20, 3) := by decide +kernel
theorem dX10_setCoefficient_33 : decode cX10_setCoefficient 33 = .ok (.bipush 9, 2) := by decide +kernel
theorem dX10_setCoefficient_35 : decode cX10_setCoefficient 35 = .ok (.iload_n 1, 1) := by decide +kernel
theorem dX10_setCoefficient_36 : decode cX10_setCoefficient 36 = .ok (.imul, 1) := by decide +kernel
theorem dX10_setCoefficient_37 : decode cX10_setCoefficient 37 = .ok (.iload_n 2, 1) := by decide +kernel
theorem dX10_setCoefficient_38 : decode cX10_setCoefficient 38 = .ok (.iadd, 1) := by decide +kernel
theorem dX10_setCoefficient_39 : decode cX10_setCoefficient 39 = .ok (.iload_n 3, 1) := by decide +kernel
theorem dX10_setCoefficient_40 : decode cX10_setCoefficient 40 = .ok (.aload_n 0, 1) := by decide +kernel
theorem dX10_setCoefficient_41 : decode cX10_setCoefficient 41 = .ok (.getfield 7, 3) := by decide +kernel
theorem dX10_setCoefficient_44 : decode cX10_setCoefficient 44 = .ok (.invokestatic 143, 3) := by decide +kernel
theorem dX10_setCoefficient_47 : decode cX10_setCoefficient 47 = .ok (.iastore, 1) := by decide +kernel
theorem dX10_setCoefficient_48 : decode cX10_setCoefficient 48 = .ok (.iload 4, 2) := by decide +kernel
theorem dX10_setCoefficient_50 : decode cX10_setCoefficient 50 = .ok (.ireturn, 1) := by decide +kernel
theorem dX10_coefficient_0 : decode cX10_coefficient 0 = .ok (.iload_n 1, 1) := by decide +kernel
theorem dX10_coefficient_1 : decode cX10_coefficient 1 = .ok (.invokestatic 176, 3) := by decide +kernel
theorem dX10_coefficient_4 : decode cX10_coefficient 4 = .ok (.ifCond .eq 24, 3) := by decide +kernel
theorem dX10_coefficient_7 : decode cX10_coefficient 7 = .ok (.iload_n 2, 1) := by decide +kernel
theorem dX10_coefficient_8 : decode cX10_coefficient 8 = .ok (.invokestatic 176, 3) := by decide +kernel
theorem dX10_coefficient_11 : decode cX10_coefficient 11 = .ok (.ifCond .eq 17, 3) := by decide +kernel
theorem dX10_coefficient_14 : decode cX10_coefficient 14 = .ok (.aload_n 0, 1) := by decide +kernel
theorem dX10_coefficient_15 : decode cX10_coefficient 15 = .ok (.getfield 20, 3) := by decide +kernel
theorem dX10_coefficient_18 : decode cX10_coefficient 18 = .ok (.bipush 9, 2) := by decide +kernel
theorem dX10_coefficient_20 : decode cX10_coefficient 20 = .ok (.iload_n 1, 1) := by decide +kernel
theorem dX10_coefficient_21 : decode cX10_coefficient 21 = .ok (.imul, 1) := by decide +kernel
theorem dX10_coefficient_22 : decode cX10_coefficient 22 = .ok (.iload_n 2, 1) := by decide +kernel
theorem dX10_coefficient_23 : decode cX10_coefficient 23 = .ok (.iadd, 1) := by decide +kernel
theorem dX10_coefficient_24 : decode cX10_coefficient 24 = .ok (.iaload, 1) := by decide +kernel
theorem dX10_coefficient_25 : decode cX10_coefficient 25 = .ok (.goto 4, 3) := by decide +kernel
theorem dX10_coefficient_28 : decode cX10_coefficient 28 = .ok (.iconst (-1), 1) := by decide +kernel
theorem dX10_coefficient_29 : decode cX10_coefficient 29 = .ok (.ireturn, 1) := by decide +kernel
theorem dX10_termCount_0 : decode cX10_termCount 0 = .ok (.iconst 0, 1) := by decide +kernel
theorem dX10_termCount_1 : decode cX10_termCount 1 = .ok (.istore_n 1, 1) := by decide +kernel
theorem dX10_termCount_2 : decode cX10_termCount 2 = .ok (.iconst 0, 1) := by decide +kernel
theorem dX10_termCount_3 : decode cX10_termCount 3 = .ok (.istore_n 2, 1) := by decide +kernel
theorem dX10_termCount_4 : decode cX10_termCount 4 = .ok (.iload_n 2, 1) := by decide +kernel
theorem dX10_termCount_5 : decode cX10_termCount 5 = .ok (.bipush 81, 2) := by decide +kernel
theorem dX10_termCount_7 : decode cX10_termCount 7 = .ok (.if_icmp .ge 26, 3) := by decide +kernel
theorem dX10_termCount_10 : decode cX10_termCount 10 = .ok (.iload_n 1, 1) := by decide +kernel
theorem dX10_termCount_11 : decode cX10_termCount 11 = .ok (.aload_n 0, 1) := by decide +kernel
theorem dX10_termCount_12 : decode cX10_termCount 12 = .ok (.getfield 20, 3) := by decide +kernel
theorem dX10_termCount_15 : decode cX10_termCount 15 = .ok (.iload_n 2, 1) := by decide +kernel
theorem dX10_termCount_16 : decode cX10_termCount 16 = .ok (.iaload, 1) := by decide +kernel
theorem dX10_termCount_17 : decode cX10_termCount 17 = .ok (.ifCond .ne 7, 3) := by decide +kernel
theorem dX10_termCount_20 : decode cX10_termCount 20 = .ok (.iconst 0, 1) := by decide +kernel
theorem dX10_termCount_21 : decode cX10_termCount 21 = .ok (.goto 4, 3) := by decide +kernel
theorem dX10_termCount_24 : decode cX10_termCount 24 = .ok (.iconst 1, 1) := by decide +kernel
theorem dX10_termCount_25 : decode cX10_termCount 25 = .ok (.iadd, 1) := by decide +kernel
theorem dX10_termCount_26 : decode cX10_termCount 26 = .ok (.istore_n 1, 1) := by decide +kernel
theorem dX10_termCount_27 : decode cX10_termCount 27 = .ok (.iinc 2 1, 3) := by decide +kernel
theorem dX10_termCount_30 : decode cX10_termCount 30 = .ok (.goto (-26), 3) := by decide +kernel
theorem dX10_termCount_33 : decode cX10_termCount 33 = .ok (.iload_n 1, 1) := by decide +kernel
theorem dX10_termCount_34 : decode cX10_termCount 34 = .ok (.ireturn, 1) := by decide +kernel
theorem dX10_valueAt_0 : decode cX10_valueAt 0 = .ok (.iconst 0, 1) := by decide +kernel
theorem dX10_valueAt_1 : decode cX10_valueAt 1 = .ok (.istore_n 2, 1) := by decide +kernel
theorem dX10_valueAt_2 : decode cX10_valueAt 2 = .ok (.iconst 0, 1) := by decide +kernel
theorem dX10_valueAt_3 : decode cX10_valueAt 3 = .ok (.istore_n 3, 1) := by decide +kernel
theorem dX10_valueAt_4 : decode cX10_valueAt 4 = .ok (.iload_n 3, 1) := by decide +kernel
theorem dX10_valueAt_5 : decode cX10_valueAt 5 = .ok (.bipush 81, 2) := by decide +kernel
theorem dX10_valueAt_7 : decode cX10_valueAt 7 = .ok (.if_icmp .ge 58, 3) := by decide +kernel
theorem dX10_valueAt_10 : decode cX10_valueAt 10 = .ok (.iload_n 2, 1) := by decide +kernel
theorem dX10_valueAt_11 : decode cX10_valueAt 11 = .ok (.aload_n 0, 1) := by decide +kernel
theorem dX10_valueAt_12 : decode cX10_valueAt 12 = .ok (.getfield 20, 3) := by decide +kernel
theorem dX10_valueAt_15 : decode cX10_valueAt 15 = .ok (.iload_n 3, 1) := by decide +kernel
theorem dX10_valueAt_16 : decode cX10_valueAt 16 = .ok (.iaload, 1) := by decide +kernel
theorem dX10_valueAt_17 : decode cX10_valueAt 17 = .ok (.aload_n 0, 1) := by decide +kernel
theorem dX10_valueAt_18 : decode cX10_valueAt 18 = .ok (.aload_n 0, 1) := by decide +kernel
theorem dX10_valueAt_19 : decode cX10_valueAt 19 = .ok (.getfield 13, 3) := by decide +kernel
theorem dX10_valueAt_22 : decode cX10_valueAt 22 = .ok (.iload_n 1, 1) := by decide +kernel
theorem dX10_valueAt_23 : decode cX10_valueAt 23 = .ok (.iaload, 1) := by decide +kernel
theorem dX10_valueAt_24 : decode cX10_valueAt 24 = .ok (.iload_n 3, 1) := by decide +kernel
theorem dX10_valueAt_25 : decode cX10_valueAt 25 = .ok (.bipush 9, 2) := by decide +kernel
theorem dX10_valueAt_27 : decode cX10_valueAt 27 = .ok (.idiv, 1) := by decide +kernel
theorem dX10_valueAt_28 : decode cX10_valueAt 28 = .ok (.invokevirtual 136, 3) := by decide +kernel
theorem dX10_valueAt_31 : decode cX10_valueAt 31 = .ok (.imul, 1) := by decide +kernel
theorem dX10_valueAt_32 : decode cX10_valueAt 32 = .ok (.aload_n 0, 1) := by decide +kernel
theorem dX10_valueAt_33 : decode cX10_valueAt 33 = .ok (.getfield 7, 3) := by decide +kernel
theorem dX10_valueAt_36 : decode cX10_valueAt 36 = .ok (.irem, 1) := by decide +kernel
theorem dX10_valueAt_37 : decode cX10_valueAt 37 = .ok (.aload_n 0, 1) := by decide +kernel
theorem dX10_valueAt_38 : decode cX10_valueAt 38 = .ok (.aload_n 0, 1) := by decide +kernel
theorem dX10_valueAt_39 : decode cX10_valueAt 39 = .ok (.getfield 17, 3) := by decide +kernel
theorem dX10_valueAt_42 : decode cX10_valueAt 42 = .ok (.iload_n 1, 1) := by decide +kernel
theorem dX10_valueAt_43 : decode cX10_valueAt 43 = .ok (.iaload, 1) := by decide +kernel
theorem dX10_valueAt_44 : decode cX10_valueAt 44 = .ok (.iload_n 3, 1) := by decide +kernel
theorem dX10_valueAt_45 : decode cX10_valueAt 45 = .ok (.bipush 9, 2) := by decide +kernel
theorem dX10_valueAt_47 : decode cX10_valueAt 47 = .ok (.irem, 1) := by decide +kernel
theorem dX10_valueAt_48 : decode cX10_valueAt 48 = .ok (.invokevirtual 136, 3) := by decide +kernel
theorem dX10_valueAt_51 : decode cX10_valueAt 51 = .ok (.imul, 1) := by decide +kernel
theorem dX10_valueAt_52 : decode cX10_valueAt 52 = .ok (.iadd, 1) := by decide +kernel
theorem dX10_valueAt_53 : decode cX10_valueAt 53 = .ok (.aload_n 0, 1) := by decide +kernel
theorem dX10_valueAt_54 : decode cX10_valueAt 54 = .ok (.getfield 7, 3) := by decide +kernel
theorem dX10_valueAt_57 : decode cX10_valueAt 57 = .ok (.irem, 1) := by decide +kernel
theorem dX10_valueAt_58 : decode cX10_valueAt 58 = .ok (.istore_n 2, 1) := by decide +kernel
theorem dX10_valueAt_59 : decode cX10_valueAt 59 = .ok (.iinc 3 1, 3) := by decide +kernel
theorem dX10_valueAt_62 : decode cX10_valueAt 62 = .ok (.goto (-58), 3) := by decide +kernel
theorem dX10_valueAt_65 : decode cX10_valueAt 65 = .ok (.iload_n 2, 1) := by decide +kernel
theorem dX10_valueAt_66 : decode cX10_valueAt 66 = .ok (.ireturn, 1) := by decide +kernel
theorem dX10_evaluate_0 : decode cX10_evaluate 0 = .ok (.aload_n 0, 1) := by decide +kernel
theorem dX10_evaluate_1 : decode cX10_evaluate 1 = .ok (.iload_n 1, 1) := by decide +kernel
theorem dX10_evaluate_2 : decode cX10_evaluate 2 = .ok (.invokevirtual 129, 3) := by decide +kernel
theorem dX10_evaluate_5 : decode cX10_evaluate 5 = .ok (.ifCond .eq 11, 3) := by decide +kernel
theorem dX10_evaluate_8 : decode cX10_evaluate 8 = .ok (.aload_n 0, 1) := by decide +kernel
theorem dX10_evaluate_9 : decode cX10_evaluate 9 = .ok (.iload_n 1, 1) := by decide +kernel
theorem dX10_evaluate_10 : decode cX10_evaluate 10 = .ok (.invokevirtual 233, 3) := by decide +kernel
theorem dX10_evaluate_13 : decode cX10_evaluate 13 = .ok (.goto 4, 3) := by decide +kernel
theorem dX10_evaluate_16 : decode cX10_evaluate 16 = .ok (.iconst (-1), 1) := by decide +kernel
theorem dX10_evaluate_17 : decode cX10_evaluate 17 = .ok (.ireturn, 1) := by decide +kernel
theorem dX10_isVanishing_0 : decode cX10_isVanishing 0 = .ok (.iconst 1, 1) := by decide +kernel
theorem dX10_isVanishing_1 : decode cX10_isVanishing 1 = .ok (.istore_n 1, 1) := by decide +kernel
theorem dX10_isVanishing_2 : decode cX10_isVanishing 2 = .ok (.iconst 0, 1) := by decide +kernel
theorem dX10_isVanishing_3 : decode cX10_isVanishing 3 = .ok (.istore_n 2, 1) := by decide +kernel
theorem dX10_isVanishing_4 : decode cX10_isVanishing 4 = .ok (.iload_n 2, 1) := by decide +kernel
theorem dX10_isVanishing_5 : decode cX10_isVanishing 5 = .ok (.aload_n 0, 1) := by decide +kernel
theorem dX10_isVanishing_6 : decode cX10_isVanishing 6 = .ok (.getfield 111, 3) := by decide +kernel
theorem dX10_isVanishing_9 : decode cX10_isVanishing 9 = .ok (.if_icmp .ge 27, 3) := by decide +kernel
theorem dX10_isVanishing_12 : decode cX10_isVanishing 12 = .ok (.iload_n 1, 1) := by decide +kernel
theorem dX10_isVanishing_13 : decode cX10_isVanishing 13 = .ok (.ifCond .eq 15, 3) := by decide +kernel
theorem dX10_isVanishing_16 : decode cX10_isVanishing 16 = .ok (.aload_n 0, 1) := by decide +kernel
theorem dX10_isVanishing_17 : decode cX10_isVanishing 17 = .ok (.iload_n 2, 1) := by decide +kernel
theorem dX10_isVanishing_18 : decode cX10_isVanishing 18 = .ok (.invokevirtual 233, 3) := by decide +kernel
theorem dX10_isVanishing_21 : decode cX10_isVanishing 21 = .ok (.ifCond .ne 7, 3) := by decide +kernel
theorem dX10_isVanishing_24 : decode cX10_isVanishing 24 = .ok (.iconst 1, 1) := by decide +kernel
theorem dX10_isVanishing_25 : decode cX10_isVanishing 25 = .ok (.goto 4, 3) := by decide +kernel
theorem dX10_isVanishing_28 : decode cX10_isVanishing 28 = .ok (.iconst 0, 1) := by decide +kernel
theorem dX10_isVanishing_29 : decode cX10_isVanishing 29 = .ok (.istore_n 1, 1) := by decide +kernel
theorem dX10_isVanishing_30 : decode cX10_isVanishing 30 = .ok (.iinc 2 1, 3) := by decide +kernel
theorem dX10_isVanishing_33 : decode cX10_isVanishing 33 = .ok (.goto (-29), 3) := by decide +kernel
theorem dX10_isVanishing_36 : decode cX10_isVanishing 36 = .ok (.iload_n 1, 1) := by decide +kernel
theorem dX10_isVanishing_37 : decode cX10_isVanishing 37 = .ok (.ifCond .eq 7, 3) := by decide +kernel
theorem dX10_isVanishing_40 : decode cX10_isVanishing 40 = .ok (.iconst 1, 1) := by decide +kernel
theorem dX10_isVanishing_41 : decode cX10_isVanishing 41 = .ok (.goto 4, 3) := by decide +kernel
theorem dX10_isVanishing_44 : decode cX10_isVanishing 44 = .ok (.iconst 0, 1) := by decide +kernel
theorem dX10_isVanishing_45 : decode cX10_isVanishing 45 = .ok (.ireturn, 1) := by decide +kernel
theorem dX10_setUp_0 : decode cX10_setUp 0 = .ok (.iconst 0, 1) := by decide +kernel
theorem dX10_setUp_1 : decode cX10_setUp 1 = .ok (.istore_n 2, 1) := by decide +kernel
theorem dX10_setUp_2 : decode cX10_setUp 2 = .ok (.iconst 0, 1) := by decide +kernel
theorem dX10_setUp_3 : decode cX10_setUp 3 = .ok (.istore_n 3, 1) := by decide +kernel
theorem dX10_setUp_4 : decode cX10_setUp 4 = .ok (.iload_n 3, 1) := by decide +kernel
theorem dX10_setUp_5 : decode cX10_setUp 5 = .ok (.bipush 81, 2) := by decide +kernel
theorem dX10_setUp_7 : decode cX10_setUp 7 = .ok (.if_icmp .ge 40, 3) := by decide +kernel
theorem dX10_setUp_10 : decode cX10_setUp 10 = .ok (.iload_n 3, 1) := by decide +kernel
theorem dX10_setUp_11 : decode cX10_setUp 11 = .ok (.bipush 9, 2) := by decide +kernel
theorem dX10_setUp_13 : decode cX10_setUp 13 = .ok (.irem, 1) := by decide +kernel
theorem dX10_setUp_14 : decode cX10_setUp 14 = .ok (.aload_n 0, 1) := by decide +kernel
theorem dX10_setUp_15 : decode cX10_setUp 15 = .ok (.getfield 66, 3) := by decide +kernel
theorem dX10_setUp_18 : decode cX10_setUp 18 = .ok (.bipush 9, 2) := by decide +kernel
theorem dX10_setUp_20 : decode cX10_setUp 20 = .ok (.iload_n 1, 1) := by decide +kernel
theorem dX10_setUp_21 : decode cX10_setUp 21 = .ok (.imul, 1) := by decide +kernel
theorem dX10_setUp_22 : decode cX10_setUp 22 = .ok (.iload_n 3, 1) := by decide +kernel
theorem dX10_setUp_23 : decode cX10_setUp 23 = .ok (.bipush 9, 2) := by decide +kernel
theorem dX10_setUp_25 : decode cX10_setUp 25 = .ok (.idiv, 1) := by decide +kernel
theorem dX10_setUp_26 : decode cX10_setUp 26 = .ok (.iadd, 1) := by decide +kernel
theorem dX10_setUp_27 : decode cX10_setUp 27 = .ok (.iaload, 1) := by decide +kernel
theorem dX10_setUp_28 : decode cX10_setUp 28 = .ok (.if_icmp .ge 13, 3) := by decide +kernel
theorem dX10_setUp_31 : decode cX10_setUp 31 = .ok (.aload_n 0, 1) := by decide +kernel
theorem dX10_setUp_32 : decode cX10_setUp 32 = .ok (.getfield 81, 3) := by decide +kernel
theorem dX10_setUp_35 : decode cX10_setUp 35 = .ok (.iload_n 2, 1) := by decide +kernel
theorem dX10_setUp_36 : decode cX10_setUp 36 = .ok (.iload_n 3, 1) := by decide +kernel
theorem dX10_setUp_37 : decode cX10_setUp 37 = .ok (.iastore, 1) := by decide +kernel
theorem dX10_setUp_38 : decode cX10_setUp 38 = .ok (.iinc 2 1, 3) := by decide +kernel
theorem dX10_setUp_41 : decode cX10_setUp 41 = .ok (.iinc 3 1, 3) := by decide +kernel
theorem dX10_setUp_44 : decode cX10_setUp 44 = .ok (.goto (-40), 3) := by decide +kernel
theorem dX10_setUp_47 : decode cX10_setUp 47 = .ok (.iconst 0, 1) := by decide +kernel
theorem dX10_setUp_48 : decode cX10_setUp 48 = .ok (.istore_n 3, 1) := by decide +kernel
theorem dX10_setUp_49 : decode cX10_setUp 49 = .ok (.iload_n 3, 1) := by decide +kernel
theorem dX10_setUp_50 : decode cX10_setUp 50 = .ok (.aload_n 0, 1) := by decide +kernel
theorem dX10_setUp_51 : decode cX10_setUp 51 = .ok (.getfield 111, 3) := by decide +kernel
theorem dX10_setUp_54 : decode cX10_setUp 54 = .ok (.if_icmp .ge 105, 3) := by decide +kernel
theorem dX10_setUp_57 : decode cX10_setUp 57 = .ok (.iconst 0, 1) := by decide +kernel
theorem dX10_setUp_58 : decode cX10_setUp 58 = .ok (.istore 4, 2) := by decide +kernel
theorem dX10_setUp_60 : decode cX10_setUp 60 = .ok (.iload 4, 2) := by decide +kernel
theorem dX10_setUp_62 : decode cX10_setUp 62 = .ok (.aload_n 0, 1) := by decide +kernel
theorem dX10_setUp_63 : decode cX10_setUp 63 = .ok (.getfield 111, 3) := by decide +kernel
theorem dX10_setUp_66 : decode cX10_setUp 66 = .ok (.if_icmp .ge 67, 3) := by decide +kernel
theorem dX10_setUp_69 : decode cX10_setUp 69 = .ok (.aload_n 0, 1) := by decide +kernel
theorem dX10_setUp_70 : decode cX10_setUp 70 = .ok (.getfield 78, 3) := by decide +kernel
theorem dX10_setUp_73 : decode cX10_setUp 73 = .ok (.bipush 9, 2) := by decide +kernel
theorem dX10_setUp_75 : decode cX10_setUp 75 = .ok (.iload_n 3, 1) := by decide +kernel
theorem dX10_setUp_76 : decode cX10_setUp 76 = .ok (.imul, 1) := by decide +kernel
theorem dX10_setUp_77 : decode cX10_setUp 77 = .ok (.iload 4, 2) := by decide +kernel
theorem dX10_setUp_79 : decode cX10_setUp 79 = .ok (.iadd, 1) := by decide +kernel
theorem dX10_setUp_80 : decode cX10_setUp 80 = .ok (.aload_n 0, 1) := by decide +kernel
theorem dX10_setUp_81 : decode cX10_setUp 81 = .ok (.aload_n 0, 1) := by decide +kernel
theorem dX10_setUp_82 : decode cX10_setUp 82 = .ok (.getfield 13, 3) := by decide +kernel
theorem dX10_setUp_85 : decode cX10_setUp 85 = .ok (.iload_n 3, 1) := by decide +kernel
theorem dX10_setUp_86 : decode cX10_setUp 86 = .ok (.iaload, 1) := by decide +kernel
theorem dX10_setUp_87 : decode cX10_setUp 87 = .ok (.aload_n 0, 1) := by decide +kernel
theorem dX10_setUp_88 : decode cX10_setUp 88 = .ok (.getfield 81, 3) := by decide +kernel
theorem dX10_setUp_91 : decode cX10_setUp 91 = .ok (.iload 4, 2) := by decide +kernel
theorem dX10_setUp_93 : decode cX10_setUp 93 = .ok (.iaload, 1) := by decide +kernel
theorem dX10_setUp_94 : decode cX10_setUp 94 = .ok (.bipush 9, 2) := by decide +kernel
theorem dX10_setUp_96 : decode cX10_setUp 96 = .ok (.idiv, 1) := by decide +kernel
theorem dX10_setUp_97 : decode cX10_setUp 97 = .ok (.invokevirtual 136, 3) := by decide +kernel
theorem dX10_setUp_100 : decode cX10_setUp 100 = .ok (.aload_n 0, 1) := by decide +kernel
theorem dX10_setUp_101 : decode cX10_setUp 101 = .ok (.aload_n 0, 1) := by decide +kernel
theorem dX10_setUp_102 : decode cX10_setUp 102 = .ok (.getfield 17, 3) := by decide +kernel
theorem dX10_setUp_105 : decode cX10_setUp 105 = .ok (.iload_n 3, 1) := by decide +kernel
theorem dX10_setUp_106 : decode cX10_setUp 106 = .ok (.iaload, 1) := by decide +kernel
theorem dX10_setUp_107 : decode cX10_setUp 107 = .ok (.aload_n 0, 1) := by decide +kernel
theorem dX10_setUp_108 : decode cX10_setUp 108 = .ok (.getfield 81, 3) := by decide +kernel
theorem dX10_setUp_111 : decode cX10_setUp 111 = .ok (.iload 4, 2) := by decide +kernel
theorem dX10_setUp_113 : decode cX10_setUp 113 = .ok (.iaload, 1) := by decide +kernel
theorem dX10_setUp_114 : decode cX10_setUp 114 = .ok (.bipush 9, 2) := by decide +kernel
theorem dX10_setUp_116 : decode cX10_setUp 116 = .ok (.irem, 1) := by decide +kernel
theorem dX10_setUp_117 : decode cX10_setUp 117 = .ok (.invokevirtual 136, 3) := by decide +kernel
theorem dX10_setUp_120 : decode cX10_setUp 120 = .ok (.imul, 1) := by decide +kernel
theorem dX10_setUp_121 : decode cX10_setUp 121 = .ok (.aload_n 0, 1) := by decide +kernel
theorem dX10_setUp_122 : decode cX10_setUp 122 = .ok (.getfield 7, 3) := by decide +kernel
theorem dX10_setUp_125 : decode cX10_setUp 125 = .ok (.irem, 1) := by decide +kernel
theorem dX10_setUp_126 : decode cX10_setUp 126 = .ok (.iastore, 1) := by decide +kernel
theorem dX10_setUp_127 : decode cX10_setUp 127 = .ok (.iinc 4 1, 3) := by decide +kernel
theorem dX10_setUp_130 : decode cX10_setUp 130 = .ok (.goto (-70), 3) := by decide +kernel
theorem dX10_setUp_133 : decode cX10_setUp 133 = .ok (.aload_n 0, 1) := by decide +kernel
theorem dX10_setUp_134 : decode cX10_setUp 134 = .ok (.getfield 78, 3) := by decide +kernel
theorem dX10_setUp_137 : decode cX10_setUp 137 = .ok (.bipush 9, 2) := by decide +kernel
theorem dX10_setUp_139 : decode cX10_setUp 139 = .ok (.iload_n 3, 1) := by decide +kernel
theorem dX10_setUp_140 : decode cX10_setUp 140 = .ok (.imul, 1) := by decide +kernel
theorem dX10_setUp_141 : decode cX10_setUp 141 = .ok (.aload_n 0, 1) := by decide +kernel
theorem dX10_setUp_142 : decode cX10_setUp 142 = .ok (.getfield 111, 3) := by decide +kernel
theorem dX10_setUp_145 : decode cX10_setUp 145 = .ok (.iadd, 1) := by decide +kernel
theorem dX10_setUp_146 : decode cX10_setUp 146 = .ok (.aload_n 0, 1) := by decide +kernel
theorem dX10_setUp_147 : decode cX10_setUp 147 = .ok (.getfield 75, 3) := by decide +kernel
theorem dX10_setUp_150 : decode cX10_setUp 150 = .ok (.iload_n 3, 1) := by decide +kernel
theorem dX10_setUp_151 : decode cX10_setUp 151 = .ok (.iaload, 1) := by decide +kernel
theorem dX10_setUp_152 : decode cX10_setUp 152 = .ok (.iastore, 1) := by decide +kernel
theorem dX10_setUp_153 : decode cX10_setUp 153 = .ok (.iinc 3 1, 3) := by decide +kernel
theorem dX10_setUp_156 : decode cX10_setUp 156 = .ok (.goto (-107), 3) := by decide +kernel
theorem dX10_setUp_159 : decode cX10_setUp 159 = .ok (.return_, 1) := by decide +kernel
theorem dX10_exchange_0 : decode cX10_exchange 0 = .ok (.iconst 0, 1) := by decide +kernel
theorem dX10_exchange_1 : decode cX10_exchange 1 = .ok (.istore_n 3, 1) := by decide +kernel
theorem dX10_exchange_2 : decode cX10_exchange 2 = .ok (.iload_n 3, 1) := by decide +kernel
theorem dX10_exchange_3 : decode cX10_exchange 3 = .ok (.aload_n 0, 1) := by decide +kernel
theorem dX10_exchange_4 : decode cX10_exchange 4 = .ok (.getfield 111, 3) := by decide +kernel
theorem dX10_exchange_7 : decode cX10_exchange 7 = .ok (.if_icmp .gt 57, 3) := by decide +kernel
theorem dX10_exchange_10 : decode cX10_exchange 10 = .ok (.aload_n 0, 1) := by decide +kernel
theorem dX10_exchange_11 : decode cX10_exchange 11 = .ok (.getfield 78, 3) := by decide +kernel
theorem dX10_exchange_14 : decode cX10_exchange 14 = .ok (.bipush 9, 2) := by decide +kernel
theorem dX10_exchange_16 : decode cX10_exchange 16 = .ok (.iload_n 1, 1) := by decide +kernel
theorem dX10_exchange_17 : decode cX10_exchange 17 = .ok (.imul, 1) := by decide +kernel
theorem dX10_exchange_18 : decode cX10_exchange 18 = .ok (.iload_n 3, 1) := by decide +kernel
theorem dX10_exchange_19 : decode cX10_exchange 19 = .ok (.iadd, 1) := by decide +kernel
theorem dX10_exchange_20 : decode cX10_exchange 20 = .ok (.iaload, 1) := by decide +kernel
theorem dX10_exchange_21 : decode cX10_exchange 21 = .ok (.istore 4, 2) := by decide +kernel
theorem dX10_exchange_23 : decode cX10_exchange 23 = .ok (.aload_n 0, 1) := by decide +kernel
theorem dX10_exchange_24 : decode cX10_exchange 24 = .ok (.getfield 78, 3) := by decide +kernel
theorem dX10_exchange_27 : decode cX10_exchange 27 = .ok (.bipush 9, 2) := by decide +kernel
theorem dX10_exchange_29 : decode cX10_exchange 29 = .ok (.iload_n 1, 1) := by decide +kernel
theorem dX10_exchange_30 : decode cX10_exchange 30 = .ok (.imul, 1) := by decide +kernel
theorem dX10_exchange_31 : decode cX10_exchange 31 = .ok (.iload_n 3, 1) := by decide +kernel
theorem dX10_exchange_32 : decode cX10_exchange 32 = .ok (.iadd, 1) := by decide +kernel
theorem dX10_exchange_33 : decode cX10_exchange 33 = .ok (.aload_n 0, 1) := by decide +kernel
theorem dX10_exchange_34 : decode cX10_exchange 34 = .ok (.getfield 78, 3) := by decide +kernel
theorem dX10_exchange_37 : decode cX10_exchange 37 = .ok (.bipush 9, 2) := by decide +kernel
theorem dX10_exchange_39 : decode cX10_exchange 39 = .ok (.iload_n 2, 1) := by decide +kernel
theorem dX10_exchange_40 : decode cX10_exchange 40 = .ok (.imul, 1) := by decide +kernel
theorem dX10_exchange_41 : decode cX10_exchange 41 = .ok (.iload_n 3, 1) := by decide +kernel
theorem dX10_exchange_42 : decode cX10_exchange 42 = .ok (.iadd, 1) := by decide +kernel
theorem dX10_exchange_43 : decode cX10_exchange 43 = .ok (.iaload, 1) := by decide +kernel
theorem dX10_exchange_44 : decode cX10_exchange 44 = .ok (.iastore, 1) := by decide +kernel
theorem dX10_exchange_45 : decode cX10_exchange 45 = .ok (.aload_n 0, 1) := by decide +kernel
theorem dX10_exchange_46 : decode cX10_exchange 46 = .ok (.getfield 78, 3) := by decide +kernel
theorem dX10_exchange_49 : decode cX10_exchange 49 = .ok (.bipush 9, 2) := by decide +kernel
theorem dX10_exchange_51 : decode cX10_exchange 51 = .ok (.iload_n 2, 1) := by decide +kernel
theorem dX10_exchange_52 : decode cX10_exchange 52 = .ok (.imul, 1) := by decide +kernel
theorem dX10_exchange_53 : decode cX10_exchange 53 = .ok (.iload_n 3, 1) := by decide +kernel
theorem dX10_exchange_54 : decode cX10_exchange 54 = .ok (.iadd, 1) := by decide +kernel
theorem dX10_exchange_55 : decode cX10_exchange 55 = .ok (.iload 4, 2) := by decide +kernel
theorem dX10_exchange_57 : decode cX10_exchange 57 = .ok (.iastore, 1) := by decide +kernel
theorem dX10_exchange_58 : decode cX10_exchange 58 = .ok (.iinc 3 1, 3) := by decide +kernel
theorem dX10_exchange_61 : decode cX10_exchange 61 = .ok (.goto (-59), 3) := by decide +kernel
theorem dX10_exchange_64 : decode cX10_exchange 64 = .ok (.return_, 1) := by decide +kernel
theorem dX10_solve_0 : decode cX10_solve 0 = .ok (.aload_n 0, 1) := by decide +kernel
theorem dX10_solve_1 : decode cX10_solve 1 = .ok (.iload_n 1, 1) := by decide +kernel
theorem dX10_solve_2 : decode cX10_solve 2 = .ok (.invokevirtual 236, 3) := by decide +kernel
theorem dX10_solve_5 : decode cX10_solve 5 = .ok (.iconst 0, 1) := by decide +kernel
theorem dX10_solve_6 : decode cX10_solve 6 = .ok (.istore_n 2, 1) := by decide +kernel
theorem dX10_solve_7 : decode cX10_solve 7 = .ok (.iload_n 2, 1) := by decide +kernel
theorem dX10_solve_8 : decode cX10_solve 8 = .ok (.aload_n 0, 1) := by decide +kernel
theorem dX10_solve_9 : decode cX10_solve 9 = .ok (.getfield 111, 3) := by decide +kernel
theorem dX10_solve_12 : decode cX10_solve 12 = .ok (.if_icmp .ge 213, 3) := by decide +kernel
theorem dX10_solve_15 : decode cX10_solve 15 = .ok (.iload_n 2, 1) := by decide +kernel
theorem dX10_solve_16 : decode cX10_solve 16 = .ok (.istore_n 3, 1) := by decide +kernel
theorem dX10_solve_17 : decode cX10_solve 17 = .ok (.aload_n 0, 1) := by decide +kernel
theorem dX10_solve_18 : decode cX10_solve 18 = .ok (.getfield 78, 3) := by decide +kernel
theorem dX10_solve_21 : decode cX10_solve 21 = .ok (.bipush 9, 2) := by decide +kernel
theorem dX10_solve_23 : decode cX10_solve 23 = .ok (.iload_n 3, 1) := by decide +kernel
theorem dX10_solve_24 : decode cX10_solve 24 = .ok (.imul, 1) := by decide +kernel
theorem dX10_solve_25 : decode cX10_solve 25 = .ok (.iload_n 2, 1) := by decide +kernel
theorem dX10_solve_26 : decode cX10_solve 26 = .ok (.iadd, 1) := by decide +kernel
theorem dX10_solve_27 : decode cX10_solve 27 = .ok (.iaload, 1) := by decide +kernel
theorem dX10_solve_28 : decode cX10_solve 28 = .ok (.ifCond .ne 9, 3) := by decide +kernel
theorem dX10_solve_31 : decode cX10_solve 31 = .ok (.iinc 3 1, 3) := by decide +kernel
theorem dX10_solve_34 : decode cX10_solve 34 = .ok (.goto (-17), 3) := by decide +kernel
theorem dX10_solve_37 : decode cX10_solve 37 = .ok (.aload_n 0, 1) := by decide +kernel
theorem dX10_solve_38 : decode cX10_solve 38 = .ok (.iload_n 3, 1) := by decide +kernel
theorem dX10_solve_39 : decode cX10_solve 39 = .ok (.iload_n 2, 1) := by decide +kernel
theorem dX10_solve_40 : decode cX10_solve 40 = .ok (.invokevirtual 239, 3) := by decide +kernel
theorem dX10_solve_43 : decode cX10_solve 43 = .ok (.aload_n 0, 1) := by decide +kernel
theorem dX10_solve_44 : decode cX10_solve 44 = .ok (.aload_n 0, 1) := by decide +kernel
theorem dX10_solve_45 : decode cX10_solve 45 = .ok (.getfield 78, 3) := by decide +kernel
theorem dX10_solve_48 : decode cX10_solve 48 = .ok (.bipush 9, 2) := by decide +kernel
theorem dX10_solve_50 : decode cX10_solve 50 = .ok (.iload_n 2, 1) := by decide +kernel
theorem dX10_solve_51 : decode cX10_solve 51 = .ok (.imul, 1) := by decide +kernel
theorem dX10_solve_52 : decode cX10_solve 52 = .ok (.iload_n 2, 1) := by decide +kernel
theorem dX10_solve_53 : decode cX10_solve 53 = .ok (.iadd, 1) := by decide +kernel
theorem dX10_solve_54 : decode cX10_solve 54 = .ok (.iaload, 1) := by decide +kernel
theorem dX10_solve_55 : decode cX10_solve 55 = .ok (.invokevirtual 148, 3) := by decide +kernel
theorem dX10_solve_58 : decode cX10_solve 58 = .ok (.istore 4, 2) := by decide +kernel
theorem dX10_solve_60 : decode cX10_solve 60 = .ok (.iconst 0, 1) := by decide +kernel
theorem dX10_solve_61 : decode cX10_solve 61 = .ok (.istore 5, 2) := by decide +kernel
theorem dX10_solve_63 : decode cX10_solve 63 = .ok (.iload 5, 2) := by decide +kernel
theorem dX10_solve_65 : decode cX10_solve 65 = .ok (.aload_n 0, 1) := by decide +kernel
theorem dX10_solve_66 : decode cX10_solve 66 = .ok (.getfield 111, 3) := by decide +kernel
theorem dX10_solve_69 : decode cX10_solve 69 = .ok (.if_icmp .gt 41, 3) := by decide +kernel
theorem dX10_solve_72 : decode cX10_solve 72 = .ok (.aload_n 0, 1) := by decide +kernel
theorem dX10_solve_73 : decode cX10_solve 73 = .ok (.getfield 78, 3) := by decide +kernel
theorem dX10_solve_76 : decode cX10_solve 76 = .ok (.bipush 9, 2) := by decide +kernel
theorem dX10_solve_78 : decode cX10_solve 78 = .ok (.iload_n 2, 1) := by decide +kernel
theorem dX10_solve_79 : decode cX10_solve 79 = .ok (.imul, 1) := by decide +kernel
theorem dX10_solve_80 : decode cX10_solve 80 = .ok (.iload 5, 2) := by decide +kernel
theorem dX10_solve_82 : decode cX10_solve 82 = .ok (.iadd, 1) := by decide +kernel
theorem dX10_solve_83 : decode cX10_solve 83 = .ok (.aload_n 0, 1) := by decide +kernel
theorem dX10_solve_84 : decode cX10_solve 84 = .ok (.getfield 78, 3) := by decide +kernel
theorem dX10_solve_87 : decode cX10_solve 87 = .ok (.bipush 9, 2) := by decide +kernel
theorem dX10_solve_89 : decode cX10_solve 89 = .ok (.iload_n 2, 1) := by decide +kernel
theorem dX10_solve_90 : decode cX10_solve 90 = .ok (.imul, 1) := by decide +kernel
theorem dX10_solve_91 : decode cX10_solve 91 = .ok (.iload 5, 2) := by decide +kernel
theorem dX10_solve_93 : decode cX10_solve 93 = .ok (.iadd, 1) := by decide +kernel
theorem dX10_solve_94 : decode cX10_solve 94 = .ok (.iaload, 1) := by decide +kernel
theorem dX10_solve_95 : decode cX10_solve 95 = .ok (.iload 4, 2) := by decide +kernel
theorem dX10_solve_97 : decode cX10_solve 97 = .ok (.imul, 1) := by decide +kernel
theorem dX10_solve_98 : decode cX10_solve 98 = .ok (.aload_n 0, 1) := by decide +kernel
theorem dX10_solve_99 : decode cX10_solve 99 = .ok (.getfield 7, 3) := by decide +kernel
theorem dX10_solve_102 : decode cX10_solve 102 = .ok (.irem, 1) := by decide +kernel
theorem dX10_solve_103 : decode cX10_solve 103 = .ok (.iastore, 1) := by decide +kernel
theorem dX10_solve_104 : decode cX10_solve 104 = .ok (.iinc 5 1, 3) := by decide +kernel
theorem dX10_solve_107 : decode cX10_solve 107 = .ok (.goto (-44), 3) := by decide +kernel
theorem dX10_solve_110 : decode cX10_solve 110 = .ok (.iconst 0, 1) := by decide +kernel
theorem dX10_solve_111 : decode cX10_solve 111 = .ok (.istore 5, 2) := by decide +kernel
theorem dX10_solve_113 : decode cX10_solve 113 = .ok (.iload 5, 2) := by decide +kernel
theorem dX10_solve_115 : decode cX10_solve 115 = .ok (.aload_n 0, 1) := by decide +kernel
theorem dX10_solve_116 : decode cX10_solve 116 = .ok (.getfield 111, 3) := by decide +kernel
theorem dX10_solve_119 : decode cX10_solve 119 = .ok (.if_icmp .ge 100, 3) := by decide +kernel
theorem dX10_solve_122 : decode cX10_solve 122 = .ok (.iload 5, 2) := by decide +kernel
theorem dX10_solve_124 : decode cX10_solve 124 = .ok (.iload_n 2, 1) := by decide +kernel
theorem dX10_solve_125 : decode cX10_solve 125 = .ok (.if_icmp .ne 7, 3) := by decide +kernel
theorem dX10_solve_128 : decode cX10_solve 128 = .ok (.iconst 0, 1) := by decide +kernel
theorem dX10_solve_129 : decode cX10_solve 129 = .ok (.goto 15, 3) := by decide +kernel
theorem dX10_solve_132 : decode cX10_solve 132 = .ok (.aload_n 0, 1) := by decide +kernel
theorem dX10_solve_133 : decode cX10_solve 133 = .ok (.getfield 78, 3) := by decide +kernel
theorem dX10_solve_136 : decode cX10_solve 136 = .ok (.bipush 9, 2) := by decide +kernel
theorem dX10_solve_138 : decode cX10_solve 138 = .ok (.iload 5, 2) := by decide +kernel
theorem dX10_solve_140 : decode cX10_solve 140 = .ok (.imul, 1) := by decide +kernel
theorem dX10_solve_141 : decode cX10_solve 141 = .ok (.iload_n 2, 1) := by decide +kernel
theorem dX10_solve_142 : decode cX10_solve 142 = .ok (.iadd, 1) := by decide +kernel
theorem dX10_solve_143 : decode cX10_solve 143 = .ok (.iaload, 1) := by decide +kernel
theorem dX10_solve_144 : decode cX10_solve 144 = .ok (.istore 6, 2) := by decide +kernel
theorem dX10_solve_146 : decode cX10_solve 146 = .ok (.iconst 0, 1) := by decide +kernel
theorem dX10_solve_147 : decode cX10_solve 147 = .ok (.istore 7, 2) := by decide +kernel
theorem dX10_solve_149 : decode cX10_solve 149 = .ok (.iload 7, 2) := by decide +kernel
theorem dX10_solve_151 : decode cX10_solve 151 = .ok (.aload_n 0, 1) := by decide +kernel
theorem dX10_solve_152 : decode cX10_solve 152 = .ok (.getfield 111, 3) := by decide +kernel
theorem dX10_solve_155 : decode cX10_solve 155 = .ok (.if_icmp .gt 58, 3) := by decide +kernel
theorem dX10_solve_158 : decode cX10_solve 158 = .ok (.aload_n 0, 1) := by decide +kernel
theorem dX10_solve_159 : decode cX10_solve 159 = .ok (.getfield 78, 3) := by decide +kernel
theorem dX10_solve_162 : decode cX10_solve 162 = .ok (.bipush 9, 2) := by decide +kernel
theorem dX10_solve_164 : decode cX10_solve 164 = .ok (.iload 5, 2) := by decide +kernel
theorem dX10_solve_166 : decode cX10_solve 166 = .ok (.imul, 1) := by decide +kernel
theorem dX10_solve_167 : decode cX10_solve 167 = .ok (.iload 7, 2) := by decide +kernel
theorem dX10_solve_169 : decode cX10_solve 169 = .ok (.iadd, 1) := by decide +kernel
theorem dX10_solve_170 : decode cX10_solve 170 = .ok (.aload_n 0, 1) := by decide +kernel
theorem dX10_solve_171 : decode cX10_solve 171 = .ok (.getfield 78, 3) := by decide +kernel
theorem dX10_solve_174 : decode cX10_solve 174 = .ok (.bipush 9, 2) := by decide +kernel
theorem dX10_solve_176 : decode cX10_solve 176 = .ok (.iload 5, 2) := by decide +kernel
theorem dX10_solve_178 : decode cX10_solve 178 = .ok (.imul, 1) := by decide +kernel
theorem dX10_solve_179 : decode cX10_solve 179 = .ok (.iload 7, 2) := by decide +kernel
theorem dX10_solve_181 : decode cX10_solve 181 = .ok (.iadd, 1) := by decide +kernel
theorem dX10_solve_182 : decode cX10_solve 182 = .ok (.iaload, 1) := by decide +kernel
theorem dX10_solve_183 : decode cX10_solve 183 = .ok (.iload 6, 2) := by decide +kernel
theorem dX10_solve_185 : decode cX10_solve 185 = .ok (.aload_n 0, 1) := by decide +kernel
theorem dX10_solve_186 : decode cX10_solve 186 = .ok (.getfield 78, 3) := by decide +kernel
theorem dX10_solve_189 : decode cX10_solve 189 = .ok (.bipush 9, 2) := by decide +kernel
theorem dX10_solve_191 : decode cX10_solve 191 = .ok (.iload_n 2, 1) := by decide +kernel
theorem dX10_solve_192 : decode cX10_solve 192 = .ok (.imul, 1) := by decide +kernel
theorem dX10_solve_193 : decode cX10_solve 193 = .ok (.iload 7, 2) := by decide +kernel
theorem dX10_solve_195 : decode cX10_solve 195 = .ok (.iadd, 1) := by decide +kernel
theorem dX10_solve_196 : decode cX10_solve 196 = .ok (.iaload, 1) := by decide +kernel
theorem dX10_solve_197 : decode cX10_solve 197 = .ok (.imul, 1) := by decide +kernel
theorem dX10_solve_198 : decode cX10_solve 198 = .ok (.isub, 1) := by decide +kernel
theorem dX10_solve_199 : decode cX10_solve 199 = .ok (.aload_n 0, 1) := by decide +kernel
theorem dX10_solve_200 : decode cX10_solve 200 = .ok (.getfield 7, 3) := by decide +kernel
theorem dX10_solve_203 : decode cX10_solve 203 = .ok (.invokestatic 143, 3) := by decide +kernel
theorem dX10_solve_206 : decode cX10_solve 206 = .ok (.iastore, 1) := by decide +kernel
theorem dX10_solve_207 : decode cX10_solve 207 = .ok (.iinc 7 1, 3) := by decide +kernel
theorem dX10_solve_210 : decode cX10_solve 210 = .ok (.goto (-61), 3) := by decide +kernel
theorem dX10_solve_213 : decode cX10_solve 213 = .ok (.iinc 5 1, 3) := by decide +kernel
theorem dX10_solve_216 : decode cX10_solve 216 = .ok (.goto (-103), 3) := by decide +kernel
theorem dX10_solve_219 : decode cX10_solve 219 = .ok (.iinc 2 1, 3) := by decide +kernel
theorem dX10_solve_222 : decode cX10_solve 222 = .ok (.goto (-215), 3) := by decide +kernel
theorem dX10_solve_225 : decode cX10_solve 225 = .ok (.aload_n 0, 1) := by decide +kernel
theorem dX10_solve_226 : decode cX10_solve 226 = .ok (.invokevirtual 126, 3) := by decide +kernel
theorem dX10_solve_229 : decode cX10_solve 229 = .ok (.iconst 0, 1) := by decide +kernel
theorem dX10_solve_230 : decode cX10_solve 230 = .ok (.istore_n 2, 1) := by decide +kernel
theorem dX10_solve_231 : decode cX10_solve 231 = .ok (.iload_n 2, 1) := by decide +kernel
theorem dX10_solve_232 : decode cX10_solve 232 = .ok (.aload_n 0, 1) := by decide +kernel
theorem dX10_solve_233 : decode cX10_solve 233 = .ok (.getfield 111, 3) := by decide +kernel
theorem dX10_solve_236 : decode cX10_solve 236 = .ok (.if_icmp .ge 34, 3) := by decide +kernel
theorem dX10_solve_239 : decode cX10_solve 239 = .ok (.aload_n 0, 1) := by decide +kernel
theorem dX10_solve_240 : decode cX10_solve 240 = .ok (.getfield 20, 3) := by decide +kernel
theorem dX10_solve_243 : decode cX10_solve 243 = .ok (.aload_n 0, 1) := by decide +kernel
theorem dX10_solve_244 : decode cX10_solve 244 = .ok (.getfield 81, 3) := by decide +kernel
theorem dX10_solve_247 : decode cX10_solve 247 = .ok (.iload_n 2, 1) := by decide +kernel
theorem dX10_solve_248 : decode cX10_solve 248 = .ok (.iaload, 1) := by decide +kernel
theorem dX10_solve_249 : decode cX10_solve 249 = .ok (.aload_n 0, 1) := by decide +kernel
theorem dX10_solve_250 : decode cX10_solve 250 = .ok (.getfield 78, 3) := by decide +kernel
theorem dX10_solve_253 : decode cX10_solve 253 = .ok (.bipush 9, 2) := by decide +kernel
theorem dX10_solve_255 : decode cX10_solve 255 = .ok (.iload_n 2, 1) := by decide +kernel
theorem dX10_solve_256 : decode cX10_solve 256 = .ok (.imul, 1) := by decide +kernel
theorem dX10_solve_257 : decode cX10_solve 257 = .ok (.aload_n 0, 1) := by decide +kernel
theorem dX10_solve_258 : decode cX10_solve 258 = .ok (.getfield 111, 3) := by decide +kernel
theorem dX10_solve_261 : decode cX10_solve 261 = .ok (.iadd, 1) := by decide +kernel
theorem dX10_solve_262 : decode cX10_solve 262 = .ok (.iaload, 1) := by decide +kernel
theorem dX10_solve_263 : decode cX10_solve 263 = .ok (.iastore, 1) := by decide +kernel
theorem dX10_solve_264 : decode cX10_solve 264 = .ok (.iinc 2 1, 3) := by decide +kernel
theorem dX10_solve_267 : decode cX10_solve 267 = .ok (.goto (-36), 3) := by decide +kernel
theorem dX10_solve_270 : decode cX10_solve 270 = .ok (.aload_n 0, 1) := by decide +kernel
theorem dX10_solve_271 : decode cX10_solve 271 = .ok (.invokevirtual 242, 3) := by decide +kernel
theorem dX10_solve_274 : decode cX10_solve 274 = .ok (.ireturn, 1) := by decide +kernel
theorem dX10_reduceToNormalForm_0 : decode cX10_reduceToNormalForm 0 = .ok (.aload_n 0, 1) := by decide +kernel
theorem dX10_reduceToNormalForm_1 : decode cX10_reduceToNormalForm 1 = .ok (.iload_n 1, 1) := by decide +kernel
theorem dX10_reduceToNormalForm_2 : decode cX10_reduceToNormalForm 2 = .ok (.invokevirtual 204, 3) := by decide +kernel
theorem dX10_reduceToNormalForm_5 : decode cX10_reduceToNormalForm 5 = .ok (.ifCond .ne 5, 3) := by decide +kernel
theorem dX10_reduceToNormalForm_8 : decode cX10_reduceToNormalForm 8 = .ok (.iconst (-1), 1) := by decide +kernel
theorem dX10_reduceToNormalForm_9 : decode cX10_reduceToNormalForm 9 = .ok (.ireturn, 1) := by decide +kernel
theorem dX10_reduceToNormalForm_10 : decode cX10_reduceToNormalForm 10 = .ok (.iconst 0, 1) := by decide +kernel
theorem dX10_reduceToNormalForm_11 : decode cX10_reduceToNormalForm 11 = .ok (.istore_n 2, 1) := by decide +kernel
theorem dX10_reduceToNormalForm_12 : decode cX10_reduceToNormalForm 12 = .ok (.iload_n 2, 1) := by decide +kernel
theorem dX10_reduceToNormalForm_13 : decode cX10_reduceToNormalForm 13 = .ok (.aload_n 0, 1) := by decide +kernel
theorem dX10_reduceToNormalForm_14 : decode cX10_reduceToNormalForm 14 = .ok (.getfield 111, 3) := by decide +kernel
theorem dX10_reduceToNormalForm_17 : decode cX10_reduceToNormalForm 17 = .ok (.if_icmp .ge 20, 3) := by decide +kernel
theorem dX10_reduceToNormalForm_20 : decode cX10_reduceToNormalForm 20 = .ok (.aload_n 0, 1) := by decide +kernel
theorem dX10_reduceToNormalForm_21 : decode cX10_reduceToNormalForm 21 = .ok (.getfield 75, 3) := by decide +kernel
theorem dX10_reduceToNormalForm_24 : decode cX10_reduceToNormalForm 24 = .ok (.iload_n 2, 1) := by decide +kernel
theorem dX10_reduceToNormalForm_25 : decode cX10_reduceToNormalForm 25 = .ok (.aload_n 0, 1) := by decide +kernel
theorem dX10_reduceToNormalForm_26 : decode cX10_reduceToNormalForm 26 = .ok (.iload_n 2, 1) := by decide +kernel
theorem dX10_reduceToNormalForm_27 : decode cX10_reduceToNormalForm 27 = .ok (.invokevirtual 233, 3) := by decide +kernel
theorem dX10_reduceToNormalForm_30 : decode cX10_reduceToNormalForm 30 = .ok (.iastore, 1) := by decide +kernel
theorem dX10_reduceToNormalForm_31 : decode cX10_reduceToNormalForm 31 = .ok (.iinc 2 1, 3) := by decide +kernel
theorem dX10_reduceToNormalForm_34 : decode cX10_reduceToNormalForm 34 = .ok (.goto (-22), 3) := by decide +kernel
theorem dX10_reduceToNormalForm_37 : decode cX10_reduceToNormalForm 37 = .ok (.aload_n 0, 1) := by decide +kernel
theorem dX10_reduceToNormalForm_38 : decode cX10_reduceToNormalForm 38 = .ok (.iload_n 1, 1) := by decide +kernel
theorem dX10_reduceToNormalForm_39 : decode cX10_reduceToNormalForm 39 = .ok (.invokevirtual 246, 3) := by decide +kernel
theorem dX10_reduceToNormalForm_42 : decode cX10_reduceToNormalForm 42 = .ok (.ireturn, 1) := by decide +kernel
theorem dX10_interpolate_0 : decode cX10_interpolate 0 = .ok (.aload_n 0, 1) := by decide +kernel
theorem dX10_interpolate_1 : decode cX10_interpolate 1 = .ok (.iload_n 1, 1) := by decide +kernel
theorem dX10_interpolate_2 : decode cX10_interpolate 2 = .ok (.invokevirtual 204, 3) := by decide +kernel
theorem dX10_interpolate_5 : decode cX10_interpolate 5 = .ok (.ifCond .eq 10, 3) := by decide +kernel
theorem dX10_interpolate_8 : decode cX10_interpolate 8 = .ok (.iload_n 2, 1) := by decide +kernel
theorem dX10_interpolate_9 : decode cX10_interpolate 9 = .ok (.invokestatic 249, 3) := by decide +kernel
theorem dX10_interpolate_12 : decode cX10_interpolate 12 = .ok (.ifCond .ne 5, 3) := by decide +kernel
theorem dX10_interpolate_15 : decode cX10_interpolate 15 = .ok (.iconst (-1), 1) := by decide +kernel
theorem dX10_interpolate_16 : decode cX10_interpolate 16 = .ok (.ireturn, 1) := by decide +kernel
theorem dX10_interpolate_17 : decode cX10_interpolate 17 = .ok (.aload_n 0, 1) := by decide +kernel
theorem dX10_interpolate_18 : decode cX10_interpolate 18 = .ok (.getfield 90, 3) := by decide +kernel
theorem dX10_interpolate_21 : decode cX10_interpolate 21 = .ok (.iload_n 2, 1) := by decide +kernel
theorem dX10_interpolate_22 : decode cX10_interpolate 22 = .ok (.iaload, 1) := by decide +kernel
theorem dX10_interpolate_23 : decode cX10_interpolate 23 = .ok (.iconst 1, 1) := by decide +kernel
theorem dX10_interpolate_24 : decode cX10_interpolate 24 = .ok (.if_icmp .eq 20, 3) := by decide +kernel
theorem dX10_interpolate_27 : decode cX10_interpolate 27 = .ok (.aload_n 0, 1) := by decide +kernel
theorem dX10_interpolate_28 : decode cX10_interpolate 28 = .ok (.getfield 90, 3) := by decide +kernel
theorem dX10_interpolate_31 : decode cX10_interpolate 31 = .ok (.iload_n 2, 1) := by decide +kernel
theorem dX10_interpolate_32 : decode cX10_interpolate 32 = .ok (.iaload, 1) := by decide +kernel
theorem dX10_interpolate_33 : decode cX10_interpolate 33 = .ok (.ifCond .ne 8, 3) := by decide +kernel
theorem dX10_interpolate_36 : decode cX10_interpolate 36 = .ok (.bipush (-6), 2) := by decide +kernel
theorem dX10_interpolate_38 : decode cX10_interpolate 38 = .ok (.goto 5, 3) := by decide +kernel
theorem dX10_interpolate_41 : decode cX10_interpolate 41 = .ok (.bipush (-7), 2) := by decide +kernel
theorem dX10_interpolate_43 : decode cX10_interpolate 43 = .ok (.ireturn, 1) := by decide +kernel
theorem dX10_interpolate_44 : decode cX10_interpolate 44 = .ok (.aload_n 0, 1) := by decide +kernel
theorem dX10_interpolate_45 : decode cX10_interpolate 45 = .ok (.getfield 93, 3) := by decide +kernel
theorem dX10_interpolate_48 : decode cX10_interpolate 48 = .ok (.iload_n 2, 1) := by decide +kernel
theorem dX10_interpolate_49 : decode cX10_interpolate 49 = .ok (.iaload, 1) := by decide +kernel
theorem dX10_interpolate_50 : decode cX10_interpolate 50 = .ok (.aload_n 0, 1) := by decide +kernel
theorem dX10_interpolate_51 : decode cX10_interpolate 51 = .ok (.getfield 111, 3) := by decide +kernel
theorem dX10_interpolate_54 : decode cX10_interpolate 54 = .ok (.if_icmp .eq 6, 3) := by decide +kernel
theorem dX10_interpolate_57 : decode cX10_interpolate 57 = .ok (.bipush (-9), 2) := by decide +kernel
theorem dX10_interpolate_59 : decode cX10_interpolate 59 = .ok (.ireturn, 1) := by decide +kernel
theorem dX10_interpolate_60 : decode cX10_interpolate 60 = .ok (.iconst 0, 1) := by decide +kernel
theorem dX10_interpolate_61 : decode cX10_interpolate 61 = .ok (.istore_n 3, 1) := by decide +kernel
theorem dX10_interpolate_62 : decode cX10_interpolate 62 = .ok (.iload_n 3, 1) := by decide +kernel
theorem dX10_interpolate_63 : decode cX10_interpolate 63 = .ok (.aload_n 0, 1) := by decide +kernel
theorem dX10_interpolate_64 : decode cX10_interpolate 64 = .ok (.getfield 111, 3) := by decide +kernel
theorem dX10_interpolate_67 : decode cX10_interpolate 67 = .ok (.if_icmp .ge 31, 3) := by decide +kernel
theorem dX10_interpolate_70 : decode cX10_interpolate 70 = .ok (.aload_n 0, 1) := by decide +kernel
theorem dX10_interpolate_71 : decode cX10_interpolate 71 = .ok (.getfield 75, 3) := by decide +kernel
theorem dX10_interpolate_74 : decode cX10_interpolate 74 = .ok (.iload_n 3, 1) := by decide +kernel
theorem dX10_interpolate_75 : decode cX10_interpolate 75 = .ok (.aload_n 0, 1) := by decide +kernel
theorem dX10_interpolate_76 : decode cX10_interpolate 76 = .ok (.getfield 96, 3) := by decide +kernel
theorem dX10_interpolate_79 : decode cX10_interpolate 79 = .ok (.bipush 20, 2) := by decide +kernel
theorem dX10_interpolate_81 : decode cX10_interpolate 81 = .ok (.iload_n 2, 1) := by decide +kernel
theorem dX10_interpolate_82 : decode cX10_interpolate 82 = .ok (.imul, 1) := by decide +kernel
theorem dX10_interpolate_83 : decode cX10_interpolate 83 = .ok (.iload_n 3, 1) := by decide +kernel
theorem dX10_interpolate_84 : decode cX10_interpolate 84 = .ok (.iadd, 1) := by decide +kernel
theorem dX10_interpolate_85 : decode cX10_interpolate 85 = .ok (.iaload, 1) := by decide +kernel
theorem dX10_interpolate_86 : decode cX10_interpolate 86 = .ok (.aload_n 0, 1) := by decide +kernel
theorem dX10_interpolate_87 : decode cX10_interpolate 87 = .ok (.getfield 7, 3) := by decide +kernel
theorem dX10_interpolate_90 : decode cX10_interpolate 90 = .ok (.irem, 1) := by decide +kernel
theorem dX10_interpolate_91 : decode cX10_interpolate 91 = .ok (.iastore, 1) := by decide +kernel
theorem dX10_interpolate_92 : decode cX10_interpolate 92 = .ok (.iinc 3 1, 3) := by decide +kernel
theorem dX10_interpolate_95 : decode cX10_interpolate 95 = .ok (.goto (-33), 3) := by decide +kernel
theorem dX10_interpolate_98 : decode cX10_interpolate 98 = .ok (.aload_n 0, 1) := by decide +kernel
theorem dX10_interpolate_99 : decode cX10_interpolate 99 = .ok (.iload_n 1, 1) := by decide +kernel
theorem dX10_interpolate_100 : decode cX10_interpolate 100 = .ok (.invokevirtual 246, 3) := by decide +kernel
theorem dX10_interpolate_103 : decode cX10_interpolate 103 = .ok (.ireturn, 1) := by decide +kernel
theorem dX10_loadBasisPolynomial_0 : decode cX10_loadBasisPolynomial 0 = .ok (.aload_n 0, 1) := by decide +kernel
theorem dX10_loadBasisPolynomial_1 : decode cX10_loadBasisPolynomial 1 = .ok (.iload_n 1, 1) := by decide +kernel
theorem dX10_loadBasisPolynomial_2 : decode cX10_loadBasisPolynomial 2 = .ok (.iload_n 2, 1) := by decide +kernel
theorem dX10_loadBasisPolynomial_3 : decode cX10_loadBasisPolynomial 3 = .ok (.invokevirtual 210, 3) := by decide +kernel
theorem dX10_loadBasisPolynomial_6 : decode cX10_loadBasisPolynomial 6 = .ok (.ifCond .ne 5, 3) := by decide +kernel
theorem dX10_loadBasisPolynomial_9 : decode cX10_loadBasisPolynomial 9 = .ok (.iconst (-1), 1) := by decide +kernel
theorem dX10_loadBasisPolynomial_10 : decode cX10_loadBasisPolynomial 10 = .ok (.ireturn, 1) := by decide +kernel
theorem dX10_loadBasisPolynomial_11 : decode cX10_loadBasisPolynomial 11 = .ok (.iconst 0, 1) := by decide +kernel
theorem dX10_loadBasisPolynomial_12 : decode cX10_loadBasisPolynomial 12 = .ok (.istore_n 3, 1) := by decide +kernel
theorem dX10_loadBasisPolynomial_13 : decode cX10_loadBasisPolynomial 13 = .ok (.iload_n 3, 1) := by decide +kernel
theorem dX10_loadBasisPolynomial_14 : decode cX10_loadBasisPolynomial 14 = .ok (.bipush 81, 2) := by decide +kernel
theorem dX10_loadBasisPolynomial_16 : decode cX10_loadBasisPolynomial 16 = .ok (.if_icmp .ge 22, 3) := by decide +kernel
theorem dX10_loadBasisPolynomial_19 : decode cX10_loadBasisPolynomial 19 = .ok (.aload_n 0, 1) := by decide +kernel
theorem dX10_loadBasisPolynomial_20 : decode cX10_loadBasisPolynomial 20 = .ok (.getfield 20, 3) := by decide +kernel
theorem dX10_loadBasisPolynomial_23 : decode cX10_loadBasisPolynomial 23 = .ok (.iload_n 3, 1) := by decide +kernel
theorem dX10_loadBasisPolynomial_24 : decode cX10_loadBasisPolynomial 24 = .ok (.aload_n 0, 1) := by decide +kernel
theorem dX10_loadBasisPolynomial_25 : decode cX10_loadBasisPolynomial 25 = .ok (.iload_n 1, 1) := by decide +kernel
theorem dX10_loadBasisPolynomial_26 : decode cX10_loadBasisPolynomial 26 = .ok (.iload_n 2, 1) := by decide +kernel
theorem dX10_loadBasisPolynomial_27 : decode cX10_loadBasisPolynomial 27 = .ok (.iload_n 3, 1) := by decide +kernel
theorem dX10_loadBasisPolynomial_28 : decode cX10_loadBasisPolynomial 28 = .ok (.invokevirtual 213, 3) := by decide +kernel
theorem dX10_loadBasisPolynomial_31 : decode cX10_loadBasisPolynomial 31 = .ok (.iastore, 1) := by decide +kernel
theorem dX10_loadBasisPolynomial_32 : decode cX10_loadBasisPolynomial 32 = .ok (.iinc 3 1, 3) := by decide +kernel
theorem dX10_loadBasisPolynomial_35 : decode cX10_loadBasisPolynomial 35 = .ok (.goto (-22), 3) := by decide +kernel
theorem dX10_loadBasisPolynomial_38 : decode cX10_loadBasisPolynomial 38 = .ok (.aload_n 0, 1) := by decide +kernel
theorem dX10_loadBasisPolynomial_39 : decode cX10_loadBasisPolynomial 39 = .ok (.invokevirtual 242, 3) := by decide +kernel
theorem dX10_loadBasisPolynomial_42 : decode cX10_loadBasisPolynomial 42 = .ok (.ireturn, 1) := by decide +kernel
theorem dX10_appendInput_0 : decode cX10_appendInput 0 = .ok (.iload_n 1, 1) := by decide +kernel
theorem dX10_appendInput_1 : decode cX10_appendInput 1 = .ok (.iconst 1, 1) := by decide +kernel
theorem dX10_appendInput_2 : decode cX10_appendInput 2 = .ok (.bipush 127, 2) := by decide +kernel
theorem dX10_appendInput_4 : decode cX10_appendInput 4 = .ok (.invokestatic 114, 3) := by decide +kernel
theorem dX10_appendInput_7 : decode cX10_appendInput 7 = .ok (.ifCond .ne 6, 3) := by decide +kernel
theorem dX10_appendInput_10 : decode cX10_appendInput 10 = .ok (.bipush (-2), 2) := by decide +kernel
theorem dX10_appendInput_12 : decode cX10_appendInput 12 = .ok (.ireturn, 1) := by decide +kernel
theorem dX10_appendInput_13 : decode cX10_appendInput 13 = .ok (.aload_n 0, 1) := by decide +kernel
theorem dX10_appendInput_14 : decode cX10_appendInput 14 = .ok (.getfield 252, 3) := by decide +kernel
theorem dX10_appendInput_17 : decode cX10_appendInput 17 = .ok (.bipush 60, 2) := by decide +kernel
theorem dX10_appendInput_19 : decode cX10_appendInput 19 = .ok (.if_icmp .ne 6, 3) := by decide +kernel
theorem dX10_appendInput_22 : decode cX10_appendInput 22 = .ok (.bipush (-4), 2) := by decide +kernel
theorem dX10_appendInput_24 : decode cX10_appendInput 24 = .ok (.ireturn, 1) := by decide +kernel
theorem dX10_appendInput_25 : decode cX10_appendInput 25 = .ok (.aload_n 0, 1) := by decide +kernel
theorem dX10_appendInput_26 : decode cX10_appendInput 26 = .ok (.getfield 84, 3) := by decide +kernel
theorem dX10_appendInput_29 : decode cX10_appendInput 29 = .ok (.aload_n 0, 1) := by decide +kernel
theorem dX10_appendInput_30 : decode cX10_appendInput 30 = .ok (.getfield 252, 3) := by decide +kernel
theorem dX10_appendInput_33 : decode cX10_appendInput 33 = .ok (.iload_n 1, 1) := by decide +kernel
theorem dX10_appendInput_34 : decode cX10_appendInput 34 = .ok (.iastore, 1) := by decide +kernel
theorem dX10_appendInput_35 : decode cX10_appendInput 35 = .ok (.aload_n 0, 1) := by decide +kernel
theorem dX10_appendInput_36 : decode cX10_appendInput 36 = .ok (.dup, 1) := by decide +kernel
theorem dX10_appendInput_37 : decode cX10_appendInput 37 = .ok (.getfield 252, 3) := by decide +kernel
theorem dX10_appendInput_40 : decode cX10_appendInput 40 = .ok (.iconst 1, 1) := by decide +kernel
theorem dX10_appendInput_41 : decode cX10_appendInput 41 = .ok (.iadd, 1) := by decide +kernel
theorem dX10_appendInput_42 : decode cX10_appendInput 42 = .ok (.putfield 252, 3) := by decide +kernel
theorem dX10_appendInput_45 : decode cX10_appendInput 45 = .ok (.aload_n 0, 1) := by decide +kernel
theorem dX10_appendInput_46 : decode cX10_appendInput 46 = .ok (.getfield 252, 3) := by decide +kernel
theorem dX10_appendInput_49 : decode cX10_appendInput 49 = .ok (.ireturn, 1) := by decide +kernel
theorem dX10_inputLength_0 : decode cX10_inputLength 0 = .ok (.aload_n 0, 1) := by decide +kernel
theorem dX10_inputLength_1 : decode cX10_inputLength 1 = .ok (.getfield 252, 3) := by decide +kernel
theorem dX10_inputLength_4 : decode cX10_inputLength 4 = .ok (.ireturn, 1) := by decide +kernel
theorem dX10_isAt_0 : decode cX10_isAt 0 = .ok (.aload_n 0, 1) := by decide +kernel
theorem dX10_isAt_1 : decode cX10_isAt 1 = .ok (.getfield 255, 3) := by decide +kernel
theorem dX10_isAt_4 : decode cX10_isAt 4 = .ok (.aload_n 0, 1) := by decide +kernel
theorem dX10_isAt_5 : decode cX10_isAt 5 = .ok (.getfield 258, 3) := by decide +kernel
theorem dX10_isAt_8 : decode cX10_isAt 8 = .ok (.if_icmp .ge 24, 3) := by decide +kernel
theorem dX10_isAt_11 : decode cX10_isAt 11 = .ok (.aload_n 0, 1) := by decide +kernel
theorem dX10_isAt_12 : decode cX10_isAt 12 = .ok (.getfield 84, 3) := by decide +kernel
theorem dX10_isAt_15 : decode cX10_isAt 15 = .ok (.aload_n 0, 1) := by decide +kernel
theorem dX10_isAt_16 : decode cX10_isAt 16 = .ok (.getfield 255, 3) := by decide +kernel
theorem dX10_isAt_19 : decode cX10_isAt 19 = .ok (.iaload, 1) := by decide +kernel
theorem dX10_isAt_20 : decode cX10_isAt 20 = .ok (.iload_n 1, 1) := by decide +kernel
theorem dX10_isAt_21 : decode cX10_isAt 21 = .ok (.iload_n 2, 1) := by decide +kernel
theorem dX10_isAt_22 : decode cX10_isAt 22 = .ok (.invokestatic 114, 3) := by decide +kernel
theorem dX10_isAt_25 : decode cX10_isAt 25 = .ok (.ifCond .eq 7, 3) := by decide +kernel
theorem dX10_isAt_28 : decode cX10_isAt 28 = .ok (.iconst 1, 1) := by decide +kernel
theorem dX10_isAt_29 : decode cX10_isAt 29 = .ok (.goto 4, 3) := by decide +kernel
theorem dX10_isAt_32 : decode cX10_isAt 32 = .ok (.iconst 0, 1) := by decide +kernel
theorem dX10_isAt_33 : decode cX10_isAt 33 = .ok (.ireturn, 1) := by decide +kernel
theorem dX10_takesNumber_0 : decode cX10_takesNumber 0 = .ok (.aload_n 0, 1) := by decide +kernel
theorem dX10_takesNumber_1 : decode cX10_takesNumber 1 = .ok (.bipush 48, 2) := by decide +kernel
theorem dX10_takesNumber_3 : decode cX10_takesNumber 3 = .ok (.bipush 57, 2) := by decide +kernel
theorem dX10_takesNumber_5 : decode cX10_takesNumber 5 = .ok (.invokevirtual 261, 3) := by decide +kernel
theorem dX10_takesNumber_8 : decode cX10_takesNumber 8 = .ok (.ifCond .ne 5, 3) := by decide +kernel
theorem dX10_takesNumber_11 : decode cX10_takesNumber 11 = .ok (.iconst 0, 1) := by decide +kernel
theorem dX10_takesNumber_12 : decode cX10_takesNumber 12 = .ok (.ireturn, 1) := by decide +kernel
theorem dX10_takesNumber_13 : decode cX10_takesNumber 13 = .ok (.aload_n 0, 1) := by decide +kernel
theorem dX10_takesNumber_14 : decode cX10_takesNumber 14 = .ok (.aload_n 0, 1) := by decide +kernel
theorem dX10_takesNumber_15 : decode cX10_takesNumber 15 = .ok (.getfield 84, 3) := by decide +kernel
theorem dX10_takesNumber_18 : decode cX10_takesNumber 18 = .ok (.aload_n 0, 1) := by decide +kernel
theorem dX10_takesNumber_19 : decode cX10_takesNumber 19 = .ok (.getfield 255, 3) := by decide +kernel
theorem dX10_takesNumber_22 : decode cX10_takesNumber 22 = .ok (.iaload, 1) := by decide +kernel
theorem dX10_takesNumber_23 : decode cX10_takesNumber 23 = .ok (.bipush 48, 2) := by decide +kernel
theorem dX10_takesNumber_25 : decode cX10_takesNumber 25 = .ok (.isub, 1) := by decide +kernel
theorem dX10_takesNumber_26 : decode cX10_takesNumber 26 = .ok (.putfield 264, 3) := by decide +kernel
theorem dX10_takesNumber_29 : decode cX10_takesNumber 29 = .ok (.aload_n 0, 1) := by decide +kernel
theorem dX10_takesNumber_30 : decode cX10_takesNumber 30 = .ok (.dup, 1) := by decide +kernel
theorem dX10_takesNumber_31 : decode cX10_takesNumber 31 = .ok (.getfield 255, 3) := by decide +kernel
theorem dX10_takesNumber_34 : decode cX10_takesNumber 34 = .ok (.iconst 1, 1) := by decide +kernel
theorem dX10_takesNumber_35 : decode cX10_takesNumber 35 = .ok (.iadd, 1) := by decide +kernel
theorem dX10_takesNumber_36 : decode cX10_takesNumber 36 = .ok (.putfield 255, 3) := by decide +kernel
theorem dX10_takesNumber_39 : decode cX10_takesNumber 39 = .ok (.aload_n 0, 1) := by decide +kernel
theorem dX10_takesNumber_40 : decode cX10_takesNumber 40 = .ok (.bipush 48, 2) := by decide +kernel
theorem dX10_takesNumber_42 : decode cX10_takesNumber 42 = .ok (.bipush 57, 2) := by decide +kernel
theorem dX10_takesNumber_44 : decode cX10_takesNumber 44 = .ok (.invokevirtual 261, 3) := by decide +kernel
theorem dX10_takesNumber_47 : decode cX10_takesNumber 47 = .ok (.ifCond .eq 37, 3) := by decide +kernel
theorem dX10_takesNumber_50 : decode cX10_takesNumber 50 = .ok (.aload_n 0, 1) := by decide +kernel
theorem dX10_takesNumber_51 : decode cX10_takesNumber 51 = .ok (.bipush 10, 2) := by decide +kernel
theorem dX10_takesNumber_53 : decode cX10_takesNumber 53 = .ok (.aload_n 0, 1) := by decide +kernel
theorem dX10_takesNumber_54 : decode cX10_takesNumber 54 = .ok (.getfield 264, 3) := by decide +kernel
theorem dX10_takesNumber_57 : decode cX10_takesNumber 57 = .ok (.imul, 1) := by decide +kernel
theorem dX10_takesNumber_58 : decode cX10_takesNumber 58 = .ok (.aload_n 0, 1) := by decide +kernel
theorem dX10_takesNumber_59 : decode cX10_takesNumber 59 = .ok (.getfield 84, 3) := by decide +kernel
theorem dX10_takesNumber_62 : decode cX10_takesNumber 62 = .ok (.aload_n 0, 1) := by decide +kernel
theorem dX10_takesNumber_63 : decode cX10_takesNumber 63 = .ok (.getfield 255, 3) := by decide +kernel
theorem dX10_takesNumber_66 : decode cX10_takesNumber 66 = .ok (.iaload, 1) := by decide +kernel
theorem dX10_takesNumber_67 : decode cX10_takesNumber 67 = .ok (.iadd, 1) := by decide +kernel
theorem dX10_takesNumber_68 : decode cX10_takesNumber 68 = .ok (.bipush 48, 2) := by decide +kernel
theorem dX10_takesNumber_70 : decode cX10_takesNumber 70 = .ok (.isub, 1) := by decide +kernel
theorem dX10_takesNumber_71 : decode cX10_takesNumber 71 = .ok (.putfield 264, 3) := by decide +kernel
theorem dX10_takesNumber_74 : decode cX10_takesNumber 74 = .ok (.aload_n 0, 1) := by decide +kernel
theorem dX10_takesNumber_75 : decode cX10_takesNumber 75 = .ok (.dup, 1) := by decide +kernel
theorem dX10_takesNumber_76 : decode cX10_takesNumber 76 = .ok (.getfield 255, 3) := by decide +kernel
theorem dX10_takesNumber_79 : decode cX10_takesNumber 79 = .ok (.iconst 1, 1) := by decide +kernel
theorem dX10_takesNumber_80 : decode cX10_takesNumber 80 = .ok (.iadd, 1) := by decide +kernel
theorem dX10_takesNumber_81 : decode cX10_takesNumber 81 = .ok (.putfield 255, 3) := by decide +kernel
theorem dX10_takesNumber_84 : decode cX10_takesNumber 84 = .ok (.iconst 1, 1) := by decide +kernel
theorem dX10_takesNumber_85 : decode cX10_takesNumber 85 = .ok (.ireturn, 1) := by decide +kernel
theorem dX10_takesPoint_0 : decode cX10_takesPoint 0 = .ok (.aload_n 0, 1) := by decide +kernel
theorem dX10_takesPoint_1 : decode cX10_takesPoint 1 = .ok (.invokevirtual 267, 3) := by decide +kernel
theorem dX10_takesPoint_4 : decode cX10_takesPoint 4 = .ok (.ifCond .ne 5, 3) := by decide +kernel
theorem dX10_takesPoint_7 : decode cX10_takesPoint 7 = .ok (.iconst (-1), 1) := by decide +kernel
theorem dX10_takesPoint_8 : decode cX10_takesPoint 8 = .ok (.ireturn, 1) := by decide +kernel
theorem dX10_takesPoint_9 : decode cX10_takesPoint 9 = .ok (.aload_n 0, 1) := by decide +kernel
theorem dX10_takesPoint_10 : decode cX10_takesPoint 10 = .ok (.getfield 264, 3) := by decide +kernel
theorem dX10_takesPoint_13 : decode cX10_takesPoint 13 = .ok (.istore_n 2, 1) := by decide +kernel
theorem dX10_takesPoint_14 : decode cX10_takesPoint 14 = .ok (.aload_n 0, 1) := by decide +kernel
theorem dX10_takesPoint_15 : decode cX10_takesPoint 15 = .ok (.bipush 44, 2) := by decide +kernel
theorem dX10_takesPoint_17 : decode cX10_takesPoint 17 = .ok (.bipush 44, 2) := by decide +kernel
theorem dX10_takesPoint_19 : decode cX10_takesPoint 19 = .ok (.invokevirtual 261, 3) := by decide +kernel
theorem dX10_takesPoint_22 : decode cX10_takesPoint 22 = .ok (.ifCond .ne 5, 3) := by decide +kernel
theorem dX10_takesPoint_25 : decode cX10_takesPoint 25 = .ok (.iconst (-1), 1) := by decide +kernel
theorem dX10_takesPoint_26 : decode cX10_takesPoint 26 = .ok (.ireturn, 1) := by decide +kernel
theorem dX10_takesPoint_27 : decode cX10_takesPoint 27 = .ok (.aload_n 0, 1) := by decide +kernel
theorem dX10_takesPoint_28 : decode cX10_takesPoint 28 = .ok (.dup, 1) := by decide +kernel
theorem dX10_takesPoint_29 : decode cX10_takesPoint 29 = .ok (.getfield 255, 3) := by decide +kernel
theorem dX10_takesPoint_32 : decode cX10_takesPoint 32 = .ok (.iconst 1, 1) := by decide +kernel
theorem dX10_takesPoint_33 : decode cX10_takesPoint 33 = .ok (.iadd, 1) := by decide +kernel
theorem dX10_takesPoint_34 : decode cX10_takesPoint 34 = .ok (.putfield 255, 3) := by decide +kernel
theorem dX10_takesPoint_37 : decode cX10_takesPoint 37 = .ok (.aload_n 0, 1) := by decide +kernel
theorem dX10_takesPoint_38 : decode cX10_takesPoint 38 = .ok (.invokevirtual 267, 3) := by decide +kernel
theorem dX10_takesPoint_41 : decode cX10_takesPoint 41 = .ok (.ifCond .ne 5, 3) := by decide +kernel
theorem dX10_takesPoint_44 : decode cX10_takesPoint 44 = .ok (.iconst (-1), 1) := by decide +kernel
theorem dX10_takesPoint_45 : decode cX10_takesPoint 45 = .ok (.ireturn, 1) := by decide +kernel
theorem dX10_takesPoint_46 : decode cX10_takesPoint 46 = .ok (.iload_n 1, 1) := by decide +kernel
theorem dX10_takesPoint_47 : decode cX10_takesPoint 47 = .ok (.ifCond .eq 19, 3) := by decide +kernel
theorem dX10_takesPoint_50 : decode cX10_takesPoint 50 = .ok (.aload_n 0, 1) := by decide +kernel
theorem dX10_takesPoint_51 : decode cX10_takesPoint 51 = .ok (.iload_n 2, 1) := by decide +kernel
theorem dX10_takesPoint_52 : decode cX10_takesPoint 52 = .ok (.aload_n 0, 1) := by decide +kernel
theorem dX10_takesPoint_53 : decode cX10_takesPoint 53 = .ok (.getfield 264, 3) := by decide +kernel
theorem dX10_takesPoint_56 : decode cX10_takesPoint 56 = .ok (.invokevirtual 271, 3) := by decide +kernel
theorem dX10_takesPoint_59 : decode cX10_takesPoint 59 = .ok (.ifCond .le 7, 3) := by decide +kernel
theorem dX10_takesPoint_62 : decode cX10_takesPoint 62 = .ok (.iconst 1, 1) := by decide +kernel
theorem dX10_takesPoint_63 : decode cX10_takesPoint 63 = .ok (.goto 4, 3) := by decide +kernel
theorem dX10_takesPoint_66 : decode cX10_takesPoint 66 = .ok (.iconst 0, 1) := by decide +kernel
theorem dX10_takesPoint_67 : decode cX10_takesPoint 67 = .ok (.ireturn, 1) := by decide +kernel
theorem dX10_takesList_0 : decode cX10_takesList 0 = .ok (.aload_n 0, 1) := by decide +kernel
theorem dX10_takesList_1 : decode cX10_takesList 1 = .ok (.iconst 0, 1) := by decide +kernel
theorem dX10_takesList_2 : decode cX10_takesList 2 = .ok (.putfield 255, 3) := by decide +kernel
theorem dX10_takesList_5 : decode cX10_takesList 5 = .ok (.iconst 0, 1) := by decide +kernel
theorem dX10_takesList_6 : decode cX10_takesList 6 = .ok (.istore_n 2, 1) := by decide +kernel
theorem dX10_takesList_7 : decode cX10_takesList 7 = .ok (.iconst 1, 1) := by decide +kernel
theorem dX10_takesList_8 : decode cX10_takesList 8 = .ok (.istore_n 3, 1) := by decide +kernel
theorem dX10_takesList_9 : decode cX10_takesList 9 = .ok (.iload_n 3, 1) := by decide +kernel
theorem dX10_takesList_10 : decode cX10_takesList 10 = .ok (.ifCond .eq 52, 3) := by decide +kernel
theorem dX10_takesList_13 : decode cX10_takesList 13 = .ok (.aload_n 0, 1) := by decide +kernel
theorem dX10_takesList_14 : decode cX10_takesList 14 = .ok (.iload_n 1, 1) := by decide +kernel
theorem dX10_takesList_15 : decode cX10_takesList 15 = .ok (.invokevirtual 274, 3) := by decide +kernel
theorem dX10_takesList_18 : decode cX10_takesList 18 = .ok (.istore 4, 2) := by decide +kernel
theorem dX10_takesList_20 : decode cX10_takesList 20 = .ok (.iload 4, 2) := by decide +kernel
theorem dX10_takesList_22 : decode cX10_takesList 22 = .ok (.ifCond .ge 5, 3) := by decide +kernel
theorem dX10_takesList_25 : decode cX10_takesList 25 = .ok (.iconst (-1), 1) := by decide +kernel
theorem dX10_takesList_26 : decode cX10_takesList 26 = .ok (.ireturn, 1) := by decide +kernel
theorem dX10_takesList_27 : decode cX10_takesList 27 = .ok (.iload_n 2, 1) := by decide +kernel
theorem dX10_takesList_28 : decode cX10_takesList 28 = .ok (.iload 4, 2) := by decide +kernel
theorem dX10_takesList_30 : decode cX10_takesList 30 = .ok (.iadd, 1) := by decide +kernel
theorem dX10_takesList_31 : decode cX10_takesList 31 = .ok (.istore_n 2, 1) := by decide +kernel
theorem dX10_takesList_32 : decode cX10_takesList 32 = .ok (.aload_n 0, 1) := by decide +kernel
theorem dX10_takesList_33 : decode cX10_takesList 33 = .ok (.bipush 59, 2) := by decide +kernel
theorem dX10_takesList_35 : decode cX10_takesList 35 = .ok (.bipush 59, 2) := by decide +kernel
theorem dX10_takesList_37 : decode cX10_takesList 37 = .ok (.invokevirtual 261, 3) := by decide +kernel
theorem dX10_takesList_40 : decode cX10_takesList 40 = .ok (.istore_n 3, 1) := by decide +kernel
theorem dX10_takesList_41 : decode cX10_takesList 41 = .ok (.aload_n 0, 1) := by decide +kernel
theorem dX10_takesList_42 : decode cX10_takesList 42 = .ok (.dup, 1) := by decide +kernel
theorem dX10_takesList_43 : decode cX10_takesList 43 = .ok (.getfield 255, 3) := by decide +kernel
theorem dX10_takesList_46 : decode cX10_takesList 46 = .ok (.iload_n 3, 1) := by decide +kernel
theorem dX10_takesList_47 : decode cX10_takesList 47 = .ok (.ifCond .eq 7, 3) := by decide +kernel
theorem dX10_takesList_50 : decode cX10_takesList 50 = .ok (.iconst 1, 1) := by decide +kernel
theorem dX10_takesList_51 : decode cX10_takesList 51 = .ok (.goto 4, 3) := by decide +kernel
theorem dX10_takesList_54 : decode cX10_takesList 54 = .ok (.iconst 0, 1) := by decide +kernel
theorem dX10_takesList_55 : decode cX10_takesList 55 = .ok (.iadd, 1) := by decide +kernel
theorem dX10_takesList_56 : decode cX10_takesList 56 = .ok (.putfield 255, 3) := by decide +kernel
theorem dX10_takesList_59 : decode cX10_takesList 59 = .ok (.goto (-50), 3) := by decide +kernel
theorem dX10_takesList_62 : decode cX10_takesList 62 = .ok (.aload_n 0, 1) := by decide +kernel
theorem dX10_takesList_63 : decode cX10_takesList 63 = .ok (.getfield 255, 3) := by decide +kernel
theorem dX10_takesList_66 : decode cX10_takesList 66 = .ok (.aload_n 0, 1) := by decide +kernel
theorem dX10_takesList_67 : decode cX10_takesList 67 = .ok (.getfield 258, 3) := by decide +kernel
theorem dX10_takesList_70 : decode cX10_takesList 70 = .ok (.if_icmp .ne 7, 3) := by decide +kernel
theorem dX10_takesList_73 : decode cX10_takesList 73 = .ok (.iload_n 2, 1) := by decide +kernel
theorem dX10_takesList_74 : decode cX10_takesList 74 = .ok (.goto 4, 3) := by decide +kernel
theorem dX10_takesList_77 : decode cX10_takesList 77 = .ok (.iconst (-1), 1) := by decide +kernel
theorem dX10_takesList_78 : decode cX10_takesList 78 = .ok (.ireturn, 1) := by decide +kernel
theorem dX10_parsePoints_0 : decode cX10_parsePoints 0 = .ok (.aload_n 0, 1) := by decide +kernel
theorem dX10_parsePoints_1 : decode cX10_parsePoints 1 = .ok (.aload_n 0, 1) := by decide +kernel
theorem dX10_parsePoints_2 : decode cX10_parsePoints 2 = .ok (.getfield 252, 3) := by decide +kernel
theorem dX10_parsePoints_5 : decode cX10_parsePoints 5 = .ok (.putfield 258, 3) := by decide +kernel
theorem dX10_parsePoints_8 : decode cX10_parsePoints 8 = .ok (.aload_n 0, 1) := by decide +kernel
theorem dX10_parsePoints_9 : decode cX10_parsePoints 9 = .ok (.iconst 0, 1) := by decide +kernel
theorem dX10_parsePoints_10 : decode cX10_parsePoints 10 = .ok (.putfield 252, 3) := by decide +kernel
theorem dX10_parsePoints_13 : decode cX10_parsePoints 13 = .ok (.aload_n 0, 1) := by decide +kernel
theorem dX10_parsePoints_14 : decode cX10_parsePoints 14 = .ok (.iconst 0, 1) := by decide +kernel
theorem dX10_parsePoints_15 : decode cX10_parsePoints 15 = .ok (.invokevirtual 278, 3) := by decide +kernel
theorem dX10_parsePoints_18 : decode cX10_parsePoints 18 = .ok (.ifCond .ge 13, 3) := by decide +kernel
theorem dX10_parsePoints_21 : decode cX10_parsePoints 21 = .ok (.bipush (-100), 2) := by decide +kernel
theorem dX10_parsePoints_23 : decode cX10_parsePoints 23 = .ok (.aload_n 0, 1) := by decide +kernel
theorem dX10_parsePoints_24 : decode cX10_parsePoints 24 = .ok (.getfield 255, 3) := by decide +kernel
theorem dX10_parsePoints_27 : decode cX10_parsePoints 27 = .ok (.isub, 1) := by decide +kernel
theorem dX10_parsePoints_28 : decode cX10_parsePoints 28 = .ok (.goto 8, 3) := by decide +kernel
theorem dX10_parsePoints_31 : decode cX10_parsePoints 31 = .ok (.aload_n 0, 1) := by decide +kernel
theorem dX10_parsePoints_32 : decode cX10_parsePoints 32 = .ok (.iconst 1, 1) := by decide +kernel
theorem dX10_parsePoints_33 : decode cX10_parsePoints 33 = .ok (.invokevirtual 278, 3) := by decide +kernel
theorem dX10_parsePoints_36 : decode cX10_parsePoints 36 = .ok (.ireturn, 1) := by decide +kernel
theorem dX10_write_0 : decode cX10_write 0 = .ok (.aload_n 0, 1) := by decide +kernel
theorem dX10_write_1 : decode cX10_write 1 = .ok (.getfield 87, 3) := by decide +kernel
theorem dX10_write_4 : decode cX10_write 4 = .ok (.aload_n 0, 1) := by decide +kernel
theorem dX10_write_5 : decode cX10_write 5 = .ok (.getfield 281, 3) := by decide +kernel
theorem dX10_write_8 : decode cX10_write 8 = .ok (.iload_n 1, 1) := by decide +kernel
theorem dX10_write_9 : decode cX10_write 9 = .ok (.iastore, 1) := by decide +kernel
theorem dX10_write_10 : decode cX10_write 10 = .ok (.aload_n 0, 1) := by decide +kernel
theorem dX10_write_11 : decode cX10_write 11 = .ok (.dup, 1) := by decide +kernel
theorem dX10_write_12 : decode cX10_write 12 = .ok (.getfield 281, 3) := by decide +kernel
theorem dX10_write_15 : decode cX10_write 15 = .ok (.iconst 1, 1) := by decide +kernel
theorem dX10_write_16 : decode cX10_write 16 = .ok (.iadd, 1) := by decide +kernel
theorem dX10_write_17 : decode cX10_write 17 = .ok (.putfield 281, 3) := by decide +kernel
theorem dX10_write_20 : decode cX10_write 20 = .ok (.return_, 1) := by decide +kernel
theorem dX10_writeTerm_0 : decode cX10_writeTerm 0 = .ok (.aload_n 0, 1) := by decide +kernel
theorem dX10_writeTerm_1 : decode cX10_writeTerm 1 = .ok (.getfield 281, 3) := by decide +kernel
theorem dX10_writeTerm_4 : decode cX10_writeTerm 4 = .ok (.ifCond .le 9, 3) := by decide +kernel
theorem dX10_writeTerm_7 : decode cX10_writeTerm 7 = .ok (.aload_n 0, 1) := by decide +kernel
theorem dX10_writeTerm_8 : decode cX10_writeTerm 8 = .ok (.bipush 43, 2) := by decide +kernel
theorem dX10_writeTerm_10 : decode cX10_writeTerm 10 = .ok (.invokevirtual 284, 3) := by decide +kernel
theorem dX10_writeTerm_13 : decode cX10_writeTerm 13 = .ok (.iload_n 1, 1) := by decide +kernel
theorem dX10_writeTerm_14 : decode cX10_writeTerm 14 = .ok (.bipush 9, 2) := by decide +kernel
theorem dX10_writeTerm_16 : decode cX10_writeTerm 16 = .ok (.if_icmp .le 14, 3) := by decide +kernel
theorem dX10_writeTerm_19 : decode cX10_writeTerm 19 = .ok (.aload_n 0, 1) := by decide +kernel
theorem dX10_writeTerm_20 : decode cX10_writeTerm 20 = .ok (.bipush 48, 2) := by decide +kernel
theorem dX10_writeTerm_22 : decode cX10_writeTerm 22 = .ok (.iload_n 1, 1) := by decide +kernel
theorem dX10_writeTerm_23 : decode cX10_writeTerm 23 = .ok (.bipush 10, 2) := by decide +kernel
theorem dX10_writeTerm_25 : decode cX10_writeTerm 25 = .ok (.idiv, 1) := by decide +kernel
theorem dX10_writeTerm_26 : decode cX10_writeTerm 26 = .ok (.iadd, 1) := by decide +kernel
theorem dX10_writeTerm_27 : decode cX10_writeTerm 27 = .ok (.invokevirtual 284, 3) := by decide +kernel
theorem dX10_writeTerm_30 : decode cX10_writeTerm 30 = .ok (.aload_n 0, 1) := by decide +kernel
theorem dX10_writeTerm_31 : decode cX10_writeTerm 31 = .ok (.bipush 48, 2) := by decide +kernel
theorem dX10_writeTerm_33 : decode cX10_writeTerm 33 = .ok (.iload_n 1, 1) := by decide +kernel
theorem dX10_writeTerm_34 : decode cX10_writeTerm 34 = .ok (.bipush 10, 2) := by decide +kernel
theorem dX10_writeTerm_36 : decode cX10_writeTerm 36 = .ok (.irem, 1) := by decide +kernel
theorem dX10_writeTerm_37 : decode cX10_writeTerm 37 = .ok (.iadd, 1) := by decide +kernel
theorem dX10_writeTerm_38 : decode cX10_writeTerm 38 = .ok (.invokevirtual 284, 3) := by decide +kernel
theorem dX10_writeTerm_41 : decode cX10_writeTerm 41 = .ok (.iload_n 2, 1) := by decide +kernel
theorem dX10_writeTerm_42 : decode cX10_writeTerm 42 = .ok (.bipush 9, 2) := by decide +kernel
theorem dX10_writeTerm_44 : decode cX10_writeTerm 44 = .ok (.idiv, 1) := by decide +kernel
theorem dX10_writeTerm_45 : decode cX10_writeTerm 45 = .ok (.ifCond .le 20, 3) := by decide +kernel
theorem dX10_writeTerm_48 : decode cX10_writeTerm 48 = .ok (.aload_n 0, 1) := by decide +kernel
theorem dX10_writeTerm_49 : decode cX10_writeTerm 49 = .ok (.bipush 120, 2) := by decide +kernel
theorem dX10_writeTerm_51 : decode cX10_writeTerm 51 = .ok (.invokevirtual 284, 3) := by decide +kernel
theorem dX10_writeTerm_54 : decode cX10_writeTerm 54 = .ok (.aload_n 0, 1) := by decide +kernel
theorem dX10_writeTerm_55 : decode cX10_writeTerm 55 = .ok (.bipush 48, 2) := by decide +kernel
theorem dX10_writeTerm_57 : decode cX10_writeTerm 57 = .ok (.iload_n 2, 1) := by decide +kernel
theorem dX10_writeTerm_58 : decode cX10_writeTerm 58 = .ok (.bipush 9, 2) := by decide +kernel
theorem dX10_writeTerm_60 : decode cX10_writeTerm 60 = .ok (.idiv, 1) := by decide +kernel
theorem dX10_writeTerm_61 : decode cX10_writeTerm 61 = .ok (.iadd, 1) := by decide +kernel
theorem dX10_writeTerm_62 : decode cX10_writeTerm 62 = .ok (.invokevirtual 284, 3) := by decide +kernel
theorem dX10_writeTerm_65 : decode cX10_writeTerm 65 = .ok (.iload_n 2, 1) := by decide +kernel
theorem dX10_writeTerm_66 : decode cX10_writeTerm 66 = .ok (.bipush 9, 2) := by decide +kernel
theorem dX10_writeTerm_68 : decode cX10_writeTerm 68 = .ok (.irem, 1) := by decide +kernel
theorem dX10_writeTerm_69 : decode cX10_writeTerm 69 = .ok (.ifCond .le 20, 3) := by decide +kernel
theorem dX10_writeTerm_72 : decode cX10_writeTerm 72 = .ok (.aload_n 0, 1) := by decide +kernel
theorem dX10_writeTerm_73 : decode cX10_writeTerm 73 = .ok (.bipush 121, 2) := by decide +kernel
theorem dX10_writeTerm_75 : decode cX10_writeTerm 75 = .ok (.invokevirtual 284, 3) := by decide +kernel
theorem dX10_writeTerm_78 : decode cX10_writeTerm 78 = .ok (.aload_n 0, 1) := by decide +kernel
theorem dX10_writeTerm_79 : decode cX10_writeTerm 79 = .ok (.bipush 48, 2) := by decide +kernel
theorem dX10_writeTerm_81 : decode cX10_writeTerm 81 = .ok (.iload_n 2, 1) := by decide +kernel
theorem dX10_writeTerm_82 : decode cX10_writeTerm 82 = .ok (.bipush 9, 2) := by decide +kernel
theorem dX10_writeTerm_84 : decode cX10_writeTerm 84 = .ok (.irem, 1) := by decide +kernel
theorem dX10_writeTerm_85 : decode cX10_writeTerm 85 = .ok (.iadd, 1) := by decide +kernel
theorem dX10_writeTerm_86 : decode cX10_writeTerm 86 = .ok (.invokevirtual 284, 3) := by decide +kernel
theorem dX10_writeTerm_89 : decode cX10_writeTerm 89 = .ok (.return_, 1) := by decide +kernel
theorem dX10_format_0 : decode cX10_format 0 = .ok (.aload_n 0, 1) := by decide +kernel
theorem dX10_format_1 : decode cX10_format 1 = .ok (.iload_n 1, 1) := by decide +kernel
theorem dX10_format_2 : decode cX10_format 2 = .ok (.iload_n 2, 1) := by decide +kernel
theorem dX10_format_3 : decode cX10_format 3 = .ok (.invokevirtual 210, 3) := by decide +kernel
theorem dX10_format_6 : decode cX10_format 6 = .ok (.ifCond .ne 5, 3) := by decide +kernel
theorem dX10_format_9 : decode cX10_format 9 = .ok (.iconst (-1), 1) := by decide +kernel
theorem dX10_format_10 : decode cX10_format 10 = .ok (.ireturn, 1) := by decide +kernel
theorem dX10_format_11 : decode cX10_format 11 = .ok (.aload_n 0, 1) := by decide +kernel
theorem dX10_format_12 : decode cX10_format 12 = .ok (.getfield 69, 3) := by decide +kernel
theorem dX10_format_15 : decode cX10_format 15 = .ok (.bipush 9, 2) := by decide +kernel
theorem dX10_format_17 : decode cX10_format 17 = .ok (.iload_n 1, 1) := by decide +kernel
theorem dX10_format_18 : decode cX10_format 18 = .ok (.imul, 1) := by decide +kernel
theorem dX10_format_19 : decode cX10_format 19 = .ok (.iload_n 2, 1) := by decide +kernel
theorem dX10_format_20 : decode cX10_format 20 = .ok (.iadd, 1) := by decide +kernel
theorem dX10_format_21 : decode cX10_format 21 = .ok (.iaload, 1) := by decide +kernel
theorem dX10_format_22 : decode cX10_format 22 = .ok (.istore_n 3, 1) := by decide +kernel
theorem dX10_format_23 : decode cX10_format 23 = .ok (.aload_n 0, 1) := by decide +kernel
theorem dX10_format_24 : decode cX10_format 24 = .ok (.iconst 0, 1) := by decide +kernel
theorem dX10_format_25 : decode cX10_format 25 = .ok (.putfield 281, 3) := by decide +kernel
theorem dX10_format_28 : decode cX10_format 28 = .ok (.aload_n 0, 1) := by decide +kernel
theorem dX10_format_29 : decode cX10_format 29 = .ok (.aload_n 0, 1) := by decide +kernel
theorem dX10_format_30 : decode cX10_format 30 = .ok (.iload_n 1, 1) := by decide +kernel
theorem dX10_format_31 : decode cX10_format 31 = .ok (.iload_n 2, 1) := by decide +kernel
theorem dX10_format_32 : decode cX10_format 32 = .ok (.iload_n 3, 1) := by decide +kernel
theorem dX10_format_33 : decode cX10_format 33 = .ok (.invokevirtual 213, 3) := by decide +kernel
theorem dX10_format_36 : decode cX10_format 36 = .ok (.iload_n 3, 1) := by decide +kernel
theorem dX10_format_37 : decode cX10_format 37 = .ok (.invokevirtual 287, 3) := by decide +kernel
theorem dX10_format_40 : decode cX10_format 40 = .ok (.bipush 80, 2) := by decide +kernel
theorem dX10_format_42 : decode cX10_format 42 = .ok (.istore 4, 2) := by decide +kernel
theorem dX10_format_44 : decode cX10_format 44 = .ok (.iload 4, 2) := by decide +kernel
theorem dX10_format_46 : decode cX10_format 46 = .ok (.ifCond .lt 40, 3) := by decide +kernel
theorem dX10_format_49 : decode cX10_format 49 = .ok (.iload 4, 2) := by decide +kernel
theorem dX10_format_51 : decode cX10_format 51 = .ok (.iload_n 3, 1) := by decide +kernel
theorem dX10_format_52 : decode cX10_format 52 = .ok (.if_icmp .eq 28, 3) := by decide +kernel
theorem dX10_format_55 : decode cX10_format 55 = .ok (.aload_n 0, 1) := by decide +kernel
theorem dX10_format_56 : decode cX10_format 56 = .ok (.iload_n 1, 1) := by decide +kernel
theorem dX10_format_57 : decode cX10_format 57 = .ok (.iload_n 2, 1) := by decide +kernel
theorem dX10_format_58 : decode cX10_format 58 = .ok (.iload 4, 2) := by decide +kernel
theorem dX10_format_60 : decode cX10_format 60 = .ok (.invokevirtual 213, 3) := by decide +kernel
theorem dX10_format_63 : decode cX10_format 63 = .ok (.ifCond .eq 17, 3) := by decide +kernel
theorem dX10_format_66 : decode cX10_format 66 = .ok (.aload_n 0, 1) := by decide +kernel
theorem dX10_format_67 : decode cX10_format 67 = .ok (.aload_n 0, 1) := by decide +kernel
theorem dX10_format_68 : decode cX10_format 68 = .ok (.iload_n 1, 1) := by decide +kernel
theorem dX10_format_69 : decode cX10_format 69 = .ok (.iload_n 2, 1) := by decide +kernel
theorem dX10_format_70 : decode cX10_format 70 = .ok (.iload 4, 2) := by decide +kernel
theorem dX10_format_72 : decode cX10_format 72 = .ok (.invokevirtual 213, 3) := by decide +kernel
theorem dX10_format_75 : decode cX10_format 75 = .ok (.iload 4, 2) := by decide +kernel
theorem dX10_format_77 : decode cX10_format 77 = .ok (.invokevirtual 287, 3) := by decide +kernel
theorem dX10_format_80 : decode cX10_format 80 = .ok (.iinc 4 (-1), 3) := by decide +kernel
theorem dX10_format_83 : decode cX10_format 83 = .ok (.goto (-39), 3) := by decide +kernel
theorem dX10_format_86 : decode cX10_format 86 = .ok (.aload_n 0, 1) := by decide +kernel
theorem dX10_format_87 : decode cX10_format 87 = .ok (.getfield 281, 3) := by decide +kernel
theorem dX10_format_90 : decode cX10_format 90 = .ok (.ireturn, 1) := by decide +kernel
theorem dX10_outputByte_0 : decode cX10_outputByte 0 = .ok (.iload_n 1, 1) := by decide +kernel
theorem dX10_outputByte_1 : decode cX10_outputByte 1 = .ok (.iconst 0, 1) := by decide +kernel
theorem dX10_outputByte_2 : decode cX10_outputByte 2 = .ok (.aload_n 0, 1) := by decide +kernel
theorem dX10_outputByte_3 : decode cX10_outputByte 3 = .ok (.getfield 281, 3) := by decide +kernel
theorem dX10_outputByte_6 : decode cX10_outputByte 6 = .ok (.iconst 1, 1) := by decide +kernel
theorem dX10_outputByte_7 : decode cX10_outputByte 7 = .ok (.isub, 1) := by decide +kernel
theorem dX10_outputByte_8 : decode cX10_outputByte 8 = .ok (.invokestatic 114, 3) := by decide +kernel
theorem dX10_outputByte_11 : decode cX10_outputByte 11 = .ok (.ifCond .eq 12, 3) := by decide +kernel
theorem dX10_outputByte_14 : decode cX10_outputByte 14 = .ok (.aload_n 0, 1) := by decide +kernel
theorem dX10_outputByte_15 : decode cX10_outputByte 15 = .ok (.getfield 87, 3) := by decide +kernel
theorem dX10_outputByte_18 : decode cX10_outputByte 18 = .ok (.iload_n 1, 1) := by decide +kernel
theorem dX10_outputByte_19 : decode cX10_outputByte 19 = .ok (.iaload, 1) := by decide +kernel
theorem dX10_outputByte_20 : decode cX10_outputByte 20 = .ok (.goto 4, 3) := by decide +kernel
theorem dX10_outputByte_23 : decode cX10_outputByte 23 = .ok (.iconst (-1), 1) := by decide +kernel
theorem dX10_outputByte_24 : decode cX10_outputByte 24 = .ok (.ireturn, 1) := by decide +kernel
theorem dX10_isSlot_0 : decode cX10_isSlot 0 = .ok (.iload_n 0, 1) := by decide +kernel
theorem dX10_isSlot_1 : decode cX10_isSlot 1 = .ok (.iconst 0, 1) := by decide +kernel
theorem dX10_isSlot_2 : decode cX10_isSlot 2 = .ok (.iconst 3, 1) := by decide +kernel
theorem dX10_isSlot_3 : decode cX10_isSlot 3 = .ok (.invokestatic 114, 3) := by decide +kernel
theorem dX10_isSlot_6 : decode cX10_isSlot 6 = .ok (.ireturn, 1) := by decide +kernel
theorem dX10_newArray_0 : decode cX10_newArray 0 = .ok (.iload_n 1, 1) := by decide +kernel
theorem dX10_newArray_1 : decode cX10_newArray 1 = .ok (.invokestatic 249, 3) := by decide +kernel
theorem dX10_newArray_4 : decode cX10_newArray 4 = .ok (.ifCond .ne 5, 3) := by decide +kernel
theorem dX10_newArray_7 : decode cX10_newArray 7 = .ok (.iconst (-1), 1) := by decide +kernel
theorem dX10_newArray_8 : decode cX10_newArray 8 = .ok (.ireturn, 1) := by decide +kernel
theorem dX10_newArray_9 : decode cX10_newArray 9 = .ok (.iload_n 2, 1) := by decide +kernel
theorem dX10_newArray_10 : decode cX10_newArray 10 = .ok (.bipush 20, 2) := by decide +kernel
theorem dX10_newArray_12 : decode cX10_newArray 12 = .ok (.if_icmp .le 6, 3) := by decide +kernel
theorem dX10_newArray_15 : decode cX10_newArray 15 = .ok (.bipush (-2), 2) := by decide +kernel
theorem dX10_newArray_17 : decode cX10_newArray 17 = .ok (.ireturn, 1) := by decide +kernel
theorem dX10_newArray_18 : decode cX10_newArray 18 = .ok (.iload_n 2, 1) := by decide +kernel
theorem dX10_newArray_19 : decode cX10_newArray 19 = .ok (.ifCond .ge 6, 3) := by decide +kernel
theorem dX10_newArray_22 : decode cX10_newArray 22 = .ok (.bipush (-8), 2) := by decide +kernel
theorem dX10_newArray_24 : decode cX10_newArray 24 = .ok (.ireturn, 1) := by decide +kernel
theorem dX10_newArray_25 : decode cX10_newArray 25 = .ok (.aload_n 0, 1) := by decide +kernel
theorem dX10_newArray_26 : decode cX10_newArray 26 = .ok (.getfield 90, 3) := by decide +kernel
theorem dX10_newArray_29 : decode cX10_newArray 29 = .ok (.iload_n 1, 1) := by decide +kernel
theorem dX10_newArray_30 : decode cX10_newArray 30 = .ok (.iconst 1, 1) := by decide +kernel
theorem dX10_newArray_31 : decode cX10_newArray 31 = .ok (.iastore, 1) := by decide +kernel
theorem dX10_newArray_32 : decode cX10_newArray 32 = .ok (.aload_n 0, 1) := by decide +kernel
theorem dX10_newArray_33 : decode cX10_newArray 33 = .ok (.getfield 93, 3) := by decide +kernel
theorem dX10_newArray_36 : decode cX10_newArray 36 = .ok (.iload_n 1, 1) := by decide +kernel
theorem dX10_newArray_37 : decode cX10_newArray 37 = .ok (.iload_n 2, 1) := by decide +kernel
theorem dX10_newArray_38 : decode cX10_newArray 38 = .ok (.iastore, 1) := by decide +kernel
theorem dX10_newArray_39 : decode cX10_newArray 39 = .ok (.iconst 0, 1) := by decide +kernel
theorem dX10_newArray_40 : decode cX10_newArray 40 = .ok (.istore_n 3, 1) := by decide +kernel
theorem dX10_newArray_41 : decode cX10_newArray 41 = .ok (.iload_n 3, 1) := by decide +kernel
theorem dX10_newArray_42 : decode cX10_newArray 42 = .ok (.bipush 20, 2) := by decide +kernel
theorem dX10_newArray_44 : decode cX10_newArray 44 = .ok (.if_icmp .ge 21, 3) := by decide +kernel
theorem dX10_newArray_47 : decode cX10_newArray 47 = .ok (.aload_n 0, 1) := by decide +kernel
theorem dX10_newArray_48 : decode cX10_newArray 48 = .ok (.getfield 96, 3) := by decide +kernel
theorem dX10_newArray_51 : decode cX10_newArray 51 = .ok (.bipush 20, 2) := by decide +kernel
theorem dX10_newArray_53 : decode cX10_newArray 53 = .ok (.iload_n 1, 1) := by decide +kernel
theorem dX10_newArray_54 : decode cX10_newArray 54 = .ok (.imul, 1) := by decide +kernel
theorem dX10_newArray_55 : decode cX10_newArray 55 = .ok (.iload_n 3, 1) := by decide +kernel
theorem dX10_newArray_56 : decode cX10_newArray 56 = .ok (.iadd, 1) := by decide +kernel
theorem dX10_newArray_57 : decode cX10_newArray 57 = .ok (.iconst 0, 1) := by decide +kernel
theorem dX10_newArray_58 : decode cX10_newArray 58 = .ok (.iastore, 1) := by decide +kernel
theorem dX10_newArray_59 : decode cX10_newArray 59 = .ok (.iinc 3 1, 3) := by decide +kernel
theorem dX10_newArray_62 : decode cX10_newArray 62 = .ok (.goto (-21), 3) := by decide +kernel
theorem dX10_newArray_65 : decode cX10_newArray 65 = .ok (.iconst 1, 1) := by decide +kernel
theorem dX10_newArray_66 : decode cX10_newArray 66 = .ok (.ireturn, 1) := by decide +kernel
theorem dX10_amiss_0 : decode cX10_amiss 0 = .ok (.aload_n 0, 1) := by decide +kernel
theorem dX10_amiss_1 : decode cX10_amiss 1 = .ok (.getfield 90, 3) := by decide +kernel
theorem dX10_amiss_4 : decode cX10_amiss 4 = .ok (.iload_n 1, 1) := by decide +kernel
theorem dX10_amiss_5 : decode cX10_amiss 5 = .ok (.iaload, 1) := by decide +kernel
theorem dX10_amiss_6 : decode cX10_amiss 6 = .ok (.ifCond .ne 8, 3) := by decide +kernel
theorem dX10_amiss_9 : decode cX10_amiss 9 = .ok (.bipush (-6), 2) := by decide +kernel
theorem dX10_amiss_11 : decode cX10_amiss 11 = .ok (.goto 19, 3) := by decide +kernel
theorem dX10_amiss_14 : decode cX10_amiss 14 = .ok (.aload_n 0, 1) := by decide +kernel
theorem dX10_amiss_15 : decode cX10_amiss 15 = .ok (.getfield 90, 3) := by decide +kernel
theorem dX10_amiss_18 : decode cX10_amiss 18 = .ok (.iload_n 1, 1) := by decide +kernel
theorem dX10_amiss_19 : decode cX10_amiss 19 = .ok (.iaload, 1) := by decide +kernel
theorem dX10_amiss_20 : decode cX10_amiss 20 = .ok (.iload_n 2, 1) := by decide +kernel
theorem dX10_amiss_21 : decode cX10_amiss 21 = .ok (.if_icmp .ne 7, 3) := by decide +kernel
theorem dX10_amiss_24 : decode cX10_amiss 24 = .ok (.iconst 0, 1) := by decide +kernel
theorem dX10_amiss_25 : decode cX10_amiss 25 = .ok (.goto 5, 3) := by decide +kernel
theorem dX10_amiss_28 : decode cX10_amiss 28 = .ok (.bipush (-7), 2) := by decide +kernel
theorem dX10_amiss_30 : decode cX10_amiss 30 = .ok (.ireturn, 1) := by decide +kernel
theorem dX10_setElement_0 : decode cX10_setElement 0 = .ok (.iload_n 1, 1) := by decide +kernel
theorem dX10_setElement_1 : decode cX10_setElement 1 = .ok (.invokestatic 249, 3) := by decide +kernel
theorem dX10_setElement_4 : decode cX10_setElement 4 = .ok (.ifCond .ne 5, 3) := by decide +kernel
theorem dX10_setElement_7 : decode cX10_setElement 7 = .ok (.iconst (-1), 1) := by decide +kernel
theorem dX10_setElement_8 : decode cX10_setElement 8 = .ok (.ireturn, 1) := by decide +kernel
theorem dX10_setElement_9 : decode cX10_setElement 9 = .ok (.iload_n 3, 1) := by decide +kernel
theorem dX10_setElement_10 : decode cX10_setElement 10 = .ok (.iconst 0, 1) := by decide +kernel
theorem dX10_setElement_11 : decode cX10_setElement 11 = .ok (.sipush 9999, 3) := by decide +kernel
theorem dX10_setElement_14 : decode cX10_setElement 14 = .ok (.invokestatic 114, 3) := by decide +kernel
theorem dX10_setElement_17 : decode cX10_setElement 17 = .ok (.ifCond .ne 6, 3) := by decide +kernel
theorem dX10_setElement_20 : decode cX10_setElement 20 = .ok (.bipush (-2), 2) := by decide +kernel
theorem dX10_setElement_22 : decode cX10_setElement 22 = .ok (.ireturn, 1) := by decide +kernel
theorem dX10_setElement_23 : decode cX10_setElement 23 = .ok (.aload_n 0, 1) := by decide +kernel
theorem dX10_setElement_24 : decode cX10_setElement 24 = .ok (.iload_n 1, 1) := by decide +kernel
theorem dX10_setElement_25 : decode cX10_setElement 25 = .ok (.iload_n 2, 1) := by decide +kernel
theorem dX10_setElement_26 : decode cX10_setElement 26 = .ok (.invokevirtual 290, 3) := by decide +kernel
theorem dX10_setElement_29 : decode cX10_setElement 29 = .ok (.istore 4, 2) := by decide +kernel
theorem dX10_setElement_31 : decode cX10_setElement 31 = .ok (.iload 4, 2) := by decide +kernel
theorem dX10_setElement_33 : decode cX10_setElement 33 = .ok (.ifCond .lt 15, 3) := by decide +kernel
theorem dX10_setElement_36 : decode cX10_setElement 36 = .ok (.aload_n 0, 1) := by decide +kernel
theorem dX10_setElement_37 : decode cX10_setElement 37 = .ok (.getfield 96, 3) := by decide +kernel
theorem dX10_setElement_40 : decode cX10_setElement 40 = .ok (.bipush 20, 2) := by decide +kernel
theorem dX10_setElement_42 : decode cX10_setElement 42 = .ok (.iload_n 1, 1) := by decide +kernel
theorem dX10_setElement_43 : decode cX10_setElement 43 = .ok (.imul, 1) := by decide +kernel
theorem dX10_setElement_44 : decode cX10_setElement 44 = .ok (.iload_n 2, 1) := by decide +kernel
theorem dX10_setElement_45 : decode cX10_setElement 45 = .ok (.iadd, 1) := by decide +kernel
theorem dX10_setElement_46 : decode cX10_setElement 46 = .ok (.iload_n 3, 1) := by decide +kernel
theorem dX10_setElement_47 : decode cX10_setElement 47 = .ok (.iastore, 1) := by decide +kernel
theorem dX10_setElement_48 : decode cX10_setElement 48 = .ok (.iload 4, 2) := by decide +kernel
theorem dX10_setElement_50 : decode cX10_setElement 50 = .ok (.ireturn, 1) := by decide +kernel
theorem dX10_element_0 : decode cX10_element 0 = .ok (.iload_n 1, 1) := by decide +kernel
theorem dX10_element_1 : decode cX10_element 1 = .ok (.invokestatic 249, 3) := by decide +kernel
theorem dX10_element_4 : decode cX10_element 4 = .ok (.ifCond .ne 5, 3) := by decide +kernel
theorem dX10_element_7 : decode cX10_element 7 = .ok (.iconst (-1), 1) := by decide +kernel
theorem dX10_element_8 : decode cX10_element 8 = .ok (.ireturn, 1) := by decide +kernel
theorem dX10_element_9 : decode cX10_element 9 = .ok (.aload_n 0, 1) := by decide +kernel
theorem dX10_element_10 : decode cX10_element 10 = .ok (.iload_n 1, 1) := by decide +kernel
theorem dX10_element_11 : decode cX10_element 11 = .ok (.iconst 1, 1) := by decide +kernel
theorem dX10_element_12 : decode cX10_element 12 = .ok (.invokevirtual 293, 3) := by decide +kernel
theorem dX10_element_15 : decode cX10_element 15 = .ok (.istore_n 3, 1) := by decide +kernel
theorem dX10_element_16 : decode cX10_element 16 = .ok (.iload_n 3, 1) := by decide +kernel
theorem dX10_element_17 : decode cX10_element 17 = .ok (.ifCond .eq 5, 3) := by decide +kernel
theorem dX10_element_20 : decode cX10_element 20 = .ok (.iload_n 3, 1) := by decide +kernel
theorem dX10_element_21 : decode cX10_element 21 = .ok (.ireturn, 1) := by decide +kernel
theorem dX10_element_22 : decode cX10_element 22 = .ok (.iload_n 2, 1) := by decide +kernel
theorem dX10_element_23 : decode cX10_element 23 = .ok (.iconst 0, 1) := by decide +kernel
theorem dX10_element_24 : decode cX10_element 24 = .ok (.aload_n 0, 1) := by decide +kernel
theorem dX10_element_25 : decode cX10_element 25 = .ok (.getfield 93, 3) := by decide +kernel
theorem dX10_element_28 : decode cX10_element 28 = .ok (.iload_n 1, 1) := by decide +kernel
theorem dX10_element_29 : decode cX10_element 29 = .ok (.iaload, 1) := by decide +kernel
theorem dX10_element_30 : decode cX10_element 30 = .ok (.iconst 1, 1) := by decide +kernel
theorem dX10_element_31 : decode cX10_element 31 = .ok (.isub, 1) := by decide +kernel
theorem dX10_element_32 : decode cX10_element 32 = .ok (.invokestatic 114, 3) := by decide +kernel
theorem dX10_element_35 : decode cX10_element 35 = .ok (.ifCond .eq 17, 3) := by decide +kernel
theorem dX10_element_38 : decode cX10_element 38 = .ok (.aload_n 0, 1) := by decide +kernel
theorem dX10_element_39 : decode cX10_element 39 = .ok (.getfield 96, 3) := by decide +kernel
theorem dX10_element_42 : decode cX10_element 42 = .ok (.bipush 20, 2) := by decide +kernel
theorem dX10_element_44 : decode cX10_element 44 = .ok (.iload_n 1, 1) := by decide +kernel
theorem dX10_element_45 : decode cX10_element 45 = .ok (.imul, 1) := by decide +kernel
theorem dX10_element_46 : decode cX10_element 46 = .ok (.iload_n 2, 1) := by decide +kernel
theorem dX10_element_47 : decode cX10_element 47 = .ok (.iadd, 1) := by decide +kernel
theorem dX10_element_48 : decode cX10_element 48 = .ok (.iaload, 1) := by decide +kernel
theorem dX10_element_49 : decode cX10_element 49 = .ok (.goto 4, 3) := by decide +kernel
theorem dX10_element_52 : decode cX10_element 52 = .ok (.iconst (-1), 1) := by decide +kernel
theorem dX10_element_53 : decode cX10_element 53 = .ok (.ireturn, 1) := by decide +kernel
theorem dX10_storePolynomial_0 : decode cX10_storePolynomial 0 = .ok (.iload_n 1, 1) := by decide +kernel
theorem dX10_storePolynomial_1 : decode cX10_storePolynomial 1 = .ok (.invokestatic 249, 3) := by decide +kernel
theorem dX10_storePolynomial_4 : decode cX10_storePolynomial 4 = .ok (.ifCond .ne 5, 3) := by decide +kernel
theorem dX10_storePolynomial_7 : decode cX10_storePolynomial 7 = .ok (.iconst (-1), 1) := by decide +kernel
theorem dX10_storePolynomial_8 : decode cX10_storePolynomial 8 = .ok (.ireturn, 1) := by decide +kernel
theorem dX10_storePolynomial_9 : decode cX10_storePolynomial 9 = .ok (.aload_n 0, 1) := by decide +kernel
theorem dX10_storePolynomial_10 : decode cX10_storePolynomial 10 = .ok (.getfield 90, 3) := by decide +kernel
theorem dX10_storePolynomial_13 : decode cX10_storePolynomial 13 = .ok (.iload_n 1, 1) := by decide +kernel
theorem dX10_storePolynomial_14 : decode cX10_storePolynomial 14 = .ok (.iconst 2, 1) := by decide +kernel
theorem dX10_storePolynomial_15 : decode cX10_storePolynomial 15 = .ok (.iastore, 1) := by decide +kernel
theorem dX10_storePolynomial_16 : decode cX10_storePolynomial 16 = .ok (.iconst 0, 1) := by decide +kernel
theorem dX10_storePolynomial_17 : decode cX10_storePolynomial 17 = .ok (.istore_n 2, 1) := by decide +kernel
theorem dX10_storePolynomial_18 : decode cX10_storePolynomial 18 = .ok (.iload_n 2, 1) := by decide +kernel
theorem dX10_storePolynomial_19 : decode cX10_storePolynomial 19 = .ok (.bipush 81, 2) := by decide +kernel
theorem dX10_storePolynomial_21 : decode cX10_storePolynomial 21 = .ok (.if_icmp .ge 26, 3) := by decide +kernel
theorem dX10_storePolynomial_24 : decode cX10_storePolynomial 24 = .ok (.aload_n 0, 1) := by decide +kernel
theorem dX10_storePolynomial_25 : decode cX10_storePolynomial 25 = .ok (.getfield 99, 3) := by decide +kernel
theorem dX10_storePolynomial_28 : decode cX10_storePolynomial 28 = .ok (.bipush 81, 2) := by decide +kernel
theorem dX10_storePolynomial_30 : decode cX10_storePolynomial 30 = .ok (.iload_n 1, 1) := by decide +kernel
theorem dX10_storePolynomial_31 : decode cX10_storePolynomial 31 = .ok (.imul, 1) := by decide +kernel
theorem dX10_storePolynomial_32 : decode cX10_storePolynomial 32 = .ok (.iload_n 2, 1) := by decide +kernel
theorem dX10_storePolynomial_33 : decode cX10_storePolynomial 33 = .ok (.iadd, 1) := by decide +kernel
theorem dX10_storePolynomial_34 : decode cX10_storePolynomial 34 = .ok (.aload_n 0, 1) := by decide +kernel
theorem dX10_storePolynomial_35 : decode cX10_storePolynomial 35 = .ok (.getfield 20, 3) := by decide +kernel
theorem dX10_storePolynomial_38 : decode cX10_storePolynomial 38 = .ok (.iload_n 2, 1) := by decide +kernel
theorem dX10_storePolynomial_39 : decode cX10_storePolynomial 39 = .ok (.iaload, 1) := by decide +kernel
theorem dX10_storePolynomial_40 : decode cX10_storePolynomial 40 = .ok (.iastore, 1) := by decide +kernel
theorem dX10_storePolynomial_41 : decode cX10_storePolynomial 41 = .ok (.iinc 2 1, 3) := by decide +kernel
theorem dX10_storePolynomial_44 : decode cX10_storePolynomial 44 = .ok (.goto (-26), 3) := by decide +kernel
theorem dX10_storePolynomial_47 : decode cX10_storePolynomial 47 = .ok (.aload_n 0, 1) := by decide +kernel
theorem dX10_storePolynomial_48 : decode cX10_storePolynomial 48 = .ok (.invokevirtual 242, 3) := by decide +kernel
theorem dX10_storePolynomial_51 : decode cX10_storePolynomial 51 = .ok (.ireturn, 1) := by decide +kernel
theorem dX10_loadPolynomial_0 : decode cX10_loadPolynomial 0 = .ok (.iload_n 1, 1) := by decide +kernel
theorem dX10_loadPolynomial_1 : decode cX10_loadPolynomial 1 = .ok (.invokestatic 249, 3) := by decide +kernel
theorem dX10_loadPolynomial_4 : decode cX10_loadPolynomial 4 = .ok (.ifCond .ne 5, 3) := by decide +kernel
theorem dX10_loadPolynomial_7 : decode cX10_loadPolynomial 7 = .ok (.iconst (-1), 1) := by decide +kernel
theorem dX10_loadPolynomial_8 : decode cX10_loadPolynomial 8 = .ok (.ireturn, 1) := by decide +kernel
theorem dX10_loadPolynomial_9 : decode cX10_loadPolynomial 9 = .ok (.aload_n 0, 1) := by decide +kernel
theorem dX10_loadPolynomial_10 : decode cX10_loadPolynomial 10 = .ok (.iload_n 1, 1) := by decide +kernel
theorem dX10_loadPolynomial_11 : decode cX10_loadPolynomial 11 = .ok (.iconst 2, 1) := by decide +kernel
theorem dX10_loadPolynomial_12 : decode cX10_loadPolynomial 12 = .ok (.invokevirtual 293, 3) := by decide +kernel
theorem dX10_loadPolynomial_15 : decode cX10_loadPolynomial 15 = .ok (.istore_n 2, 1) := by decide +kernel
theorem dX10_loadPolynomial_16 : decode cX10_loadPolynomial 16 = .ok (.iload_n 2, 1) := by decide +kernel
theorem dX10_loadPolynomial_17 : decode cX10_loadPolynomial 17 = .ok (.ifCond .eq 5, 3) := by decide +kernel
theorem dX10_loadPolynomial_20 : decode cX10_loadPolynomial 20 = .ok (.iload_n 2, 1) := by decide +kernel
theorem dX10_loadPolynomial_21 : decode cX10_loadPolynomial 21 = .ok (.ireturn, 1) := by decide +kernel
theorem dX10_loadPolynomial_22 : decode cX10_loadPolynomial 22 = .ok (.iconst 0, 1) := by decide +kernel
theorem dX10_loadPolynomial_23 : decode cX10_loadPolynomial 23 = .ok (.istore_n 3, 1) := by decide +kernel
theorem dX10_loadPolynomial_24 : decode cX10_loadPolynomial 24 = .ok (.iload_n 3, 1) := by decide +kernel
theorem dX10_loadPolynomial_25 : decode cX10_loadPolynomial 25 = .ok (.bipush 81, 2) := by decide +kernel
theorem dX10_loadPolynomial_27 : decode cX10_loadPolynomial 27 = .ok (.if_icmp .ge 31, 3) := by decide +kernel
theorem dX10_loadPolynomial_30 : decode cX10_loadPolynomial 30 = .ok (.aload_n 0, 1) := by decide +kernel
theorem dX10_loadPolynomial_31 : decode cX10_loadPolynomial 31 = .ok (.getfield 20, 3) := by decide +kernel
theorem dX10_loadPolynomial_34 : decode cX10_loadPolynomial 34 = .ok (.iload_n 3, 1) := by decide +kernel
theorem dX10_loadPolynomial_35 : decode cX10_loadPolynomial 35 = .ok (.aload_n 0, 1) := by decide +kernel
theorem dX10_loadPolynomial_36 : decode cX10_loadPolynomial 36 = .ok (.getfield 99, 3) := by decide +kernel
theorem dX10_loadPolynomial_39 : decode cX10_loadPolynomial 39 = .ok (.bipush 81, 2) := by decide +kernel
theorem dX10_loadPolynomial_41 : decode cX10_loadPolynomial 41 = .ok (.iload_n 1, 1) := by decide +kernel
theorem dX10_loadPolynomial_42 : decode cX10_loadPolynomial 42 = .ok (.imul, 1) := by decide +kernel
theorem dX10_loadPolynomial_43 : decode cX10_loadPolynomial 43 = .ok (.iload_n 3, 1) := by decide +kernel
theorem dX10_loadPolynomial_44 : decode cX10_loadPolynomial 44 = .ok (.iadd, 1) := by decide +kernel
theorem dX10_loadPolynomial_45 : decode cX10_loadPolynomial 45 = .ok (.iaload, 1) := by decide +kernel
theorem dX10_loadPolynomial_46 : decode cX10_loadPolynomial 46 = .ok (.aload_n 0, 1) := by decide +kernel
theorem dX10_loadPolynomial_47 : decode cX10_loadPolynomial 47 = .ok (.getfield 7, 3) := by decide +kernel
theorem dX10_loadPolynomial_50 : decode cX10_loadPolynomial 50 = .ok (.irem, 1) := by decide +kernel
theorem dX10_loadPolynomial_51 : decode cX10_loadPolynomial 51 = .ok (.iastore, 1) := by decide +kernel
theorem dX10_loadPolynomial_52 : decode cX10_loadPolynomial 52 = .ok (.iinc 3 1, 3) := by decide +kernel
theorem dX10_loadPolynomial_55 : decode cX10_loadPolynomial 55 = .ok (.goto (-31), 3) := by decide +kernel
theorem dX10_loadPolynomial_58 : decode cX10_loadPolynomial 58 = .ok (.aload_n 0, 1) := by decide +kernel
theorem dX10_loadPolynomial_59 : decode cX10_loadPolynomial 59 = .ok (.invokevirtual 242, 3) := by decide +kernel
theorem dX10_loadPolynomial_62 : decode cX10_loadPolynomial 62 = .ok (.ireturn, 1) := by decide +kernel
theorem dX10_clearSlot_0 : decode cX10_clearSlot 0 = .ok (.iload_n 1, 1) := by decide +kernel
theorem dX10_clearSlot_1 : decode cX10_clearSlot 1 = .ok (.invokestatic 249, 3) := by decide +kernel
theorem dX10_clearSlot_4 : decode cX10_clearSlot 4 = .ok (.ifCond .ne 5, 3) := by decide +kernel
theorem dX10_clearSlot_7 : decode cX10_clearSlot 7 = .ok (.iconst (-1), 1) := by decide +kernel
theorem dX10_clearSlot_8 : decode cX10_clearSlot 8 = .ok (.ireturn, 1) := by decide +kernel
theorem dX10_clearSlot_9 : decode cX10_clearSlot 9 = .ok (.aload_n 0, 1) := by decide +kernel
theorem dX10_clearSlot_10 : decode cX10_clearSlot 10 = .ok (.getfield 90, 3) := by decide +kernel
theorem dX10_clearSlot_13 : decode cX10_clearSlot 13 = .ok (.iload_n 1, 1) := by decide +kernel
theorem dX10_clearSlot_14 : decode cX10_clearSlot 14 = .ok (.iaload, 1) := by decide +kernel
theorem dX10_clearSlot_15 : decode cX10_clearSlot 15 = .ok (.istore_n 2, 1) := by decide +kernel
theorem dX10_clearSlot_16 : decode cX10_clearSlot 16 = .ok (.aload_n 0, 1) := by decide +kernel
theorem dX10_clearSlot_17 : decode cX10_clearSlot 17 = .ok (.getfield 90, 3) := by decide +kernel
theorem dX10_clearSlot_20 : decode cX10_clearSlot 20 = .ok (.iload_n 1, 1) := by decide +kernel
theorem dX10_clearSlot_21 : decode cX10_clearSlot 21 = .ok (.iconst 0, 1) := by decide +kernel
theorem dX10_clearSlot_22 : decode cX10_clearSlot 22 = .ok (.iastore, 1) := by decide +kernel
theorem dX10_clearSlot_23 : decode cX10_clearSlot 23 = .ok (.iload_n 2, 1) := by decide +kernel
theorem dX10_clearSlot_24 : decode cX10_clearSlot 24 = .ok (.ireturn, 1) := by decide +kernel
theorem dX10_firstDifference_0 : decode cX10_firstDifference 0 = .ok (.iload_n 1, 1) := by decide +kernel
theorem dX10_firstDifference_1 : decode cX10_firstDifference 1 = .ok (.invokestatic 249, 3) := by decide +kernel
theorem dX10_firstDifference_4 : decode cX10_firstDifference 4 = .ok (.ifCond .eq 11, 3) := by decide +kernel
theorem dX10_firstDifference_7 : decode cX10_firstDifference 7 = .ok (.aload_n 0, 1) := by decide +kernel
theorem dX10_firstDifference_8 : decode cX10_firstDifference 8 = .ok (.iload_n 2, 1) := by decide +kernel
theorem dX10_firstDifference_9 : decode cX10_firstDifference 9 = .ok (.invokevirtual 204, 3) := by decide +kernel
theorem dX10_firstDifference_12 : decode cX10_firstDifference 12 = .ok (.ifCond .ne 5, 3) := by decide +kernel
theorem dX10_firstDifference_15 : decode cX10_firstDifference 15 = .ok (.iconst (-1), 1) := by decide +kernel
theorem dX10_firstDifference_16 : decode cX10_firstDifference 16 = .ok (.ireturn, 1) := by decide +kernel
theorem dX10_firstDifference_17 : decode cX10_firstDifference 17 = .ok (.aload_n 0, 1) := by decide +kernel
theorem dX10_firstDifference_18 : decode cX10_firstDifference 18 = .ok (.iload_n 1, 1) := by decide +kernel
theorem dX10_firstDifference_19 : decode cX10_firstDifference 19 = .ok (.iconst 1, 1) := by decide +kernel
theorem dX10_firstDifference_20 : decode cX10_firstDifference 20 = .ok (.invokevirtual 293, 3) := by decide +kernel
theorem dX10_firstDifference_23 : decode cX10_firstDifference 23 = .ok (.istore_n 3, 1) := by decide +kernel
theorem dX10_firstDifference_24 : decode cX10_firstDifference 24 = .ok (.iload_n 3, 1) := by decide +kernel
theorem dX10_firstDifference_25 : decode cX10_firstDifference 25 = .ok (.ifCond .eq 5, 3) := by decide +kernel
theorem dX10_firstDifference_28 : decode cX10_firstDifference 28 = .ok (.iload_n 3, 1) := by decide +kernel
theorem dX10_firstDifference_29 : decode cX10_firstDifference 29 = .ok (.ireturn, 1) := by decide +kernel
theorem dX10_firstDifference_30 : decode cX10_firstDifference 30 = .ok (.iconst 0, 1) := by decide +kernel
theorem dX10_firstDifference_31 : decode cX10_firstDifference 31 = .ok (.istore 4, 2) := by decide +kernel
theorem dX10_firstDifference_33 : decode cX10_firstDifference 33 = .ok (.iload 4, 2) := by decide +kernel
theorem dX10_firstDifference_35 : decode cX10_firstDifference 35 = .ok (.aload_n 0, 1) := by decide +kernel
theorem dX10_firstDifference_36 : decode cX10_firstDifference 36 = .ok (.getfield 93, 3) := by decide +kernel
theorem dX10_firstDifference_39 : decode cX10_firstDifference 39 = .ok (.iload_n 1, 1) := by decide +kernel
theorem dX10_firstDifference_40 : decode cX10_firstDifference 40 = .ok (.iaload, 1) := by decide +kernel
theorem dX10_firstDifference_41 : decode cX10_firstDifference 41 = .ok (.if_icmp .ge 46, 3) := by decide +kernel
theorem dX10_firstDifference_44 : decode cX10_firstDifference 44 = .ok (.iload 4, 2) := by decide +kernel
theorem dX10_firstDifference_46 : decode cX10_firstDifference 46 = .ok (.bipush 9, 2) := by decide +kernel
theorem dX10_firstDifference_48 : decode cX10_firstDifference 48 = .ok (.if_icmp .ge 30, 3) := by decide +kernel
theorem dX10_firstDifference_51 : decode cX10_firstDifference 51 = .ok (.aload_n 0, 1) := by decide +kernel
theorem dX10_firstDifference_52 : decode cX10_firstDifference 52 = .ok (.getfield 96, 3) := by decide +kernel
theorem dX10_firstDifference_55 : decode cX10_firstDifference 55 = .ok (.bipush 20, 2) := by decide +kernel
theorem dX10_firstDifference_57 : decode cX10_firstDifference 57 = .ok (.iload_n 1, 1) := by decide +kernel
theorem dX10_firstDifference_58 : decode cX10_firstDifference 58 = .ok (.imul, 1) := by decide +kernel
theorem dX10_firstDifference_59 : decode cX10_firstDifference 59 = .ok (.iload 4, 2) := by decide +kernel
theorem dX10_firstDifference_61 : decode cX10_firstDifference 61 = .ok (.iadd, 1) := by decide +kernel
theorem dX10_firstDifference_62 : decode cX10_firstDifference 62 = .ok (.iaload, 1) := by decide +kernel
theorem dX10_firstDifference_63 : decode cX10_firstDifference 63 = .ok (.aload_n 0, 1) := by decide +kernel
theorem dX10_firstDifference_64 : decode cX10_firstDifference 64 = .ok (.getfield 66, 3) := by decide +kernel
theorem dX10_firstDifference_67 : decode cX10_firstDifference 67 = .ok (.bipush 9, 2) := by decide +kernel
theorem dX10_firstDifference_69 : decode cX10_firstDifference 69 = .ok (.iload_n 2, 1) := by decide +kernel
theorem dX10_firstDifference_70 : decode cX10_firstDifference 70 = .ok (.imul, 1) := by decide +kernel
theorem dX10_firstDifference_71 : decode cX10_firstDifference 71 = .ok (.iload 4, 2) := by decide +kernel
theorem dX10_firstDifference_73 : decode cX10_firstDifference 73 = .ok (.iadd, 1) := by decide +kernel
theorem dX10_firstDifference_74 : decode cX10_firstDifference 74 = .ok (.iaload, 1) := by decide +kernel
theorem dX10_firstDifference_75 : decode cX10_firstDifference 75 = .ok (.if_icmp .eq 6, 3) := by decide +kernel
theorem dX10_firstDifference_78 : decode cX10_firstDifference 78 = .ok (.iload 4, 2) := by decide +kernel
theorem dX10_firstDifference_80 : decode cX10_firstDifference 80 = .ok (.ireturn, 1) := by decide +kernel
theorem dX10_firstDifference_81 : decode cX10_firstDifference 81 = .ok (.iinc 4 1, 3) := by decide +kernel
theorem dX10_firstDifference_84 : decode cX10_firstDifference 84 = .ok (.goto (-51), 3) := by decide +kernel
theorem dX10_firstDifference_87 : decode cX10_firstDifference 87 = .ok (.bipush (-5), 2) := by decide +kernel
theorem dX10_firstDifference_89 : decode cX10_firstDifference 89 = .ok (.ireturn, 1) := by decide +kernel
theorem dX10_saveSnapshot_0 : decode cX10_saveSnapshot 0 = .ok (.aload_n 0, 1) := by decide +kernel
theorem dX10_saveSnapshot_1 : decode cX10_saveSnapshot 1 = .ok (.iconst 1, 1) := by decide +kernel
theorem dX10_saveSnapshot_2 : decode cX10_saveSnapshot 2 = .ok (.putfield 296, 3) := by decide +kernel
theorem dX10_saveSnapshot_5 : decode cX10_saveSnapshot 5 = .ok (.aload_n 0, 1) := by decide +kernel
theorem dX10_saveSnapshot_6 : decode cX10_saveSnapshot 6 = .ok (.aload_n 0, 1) := by decide +kernel
theorem dX10_saveSnapshot_7 : decode cX10_saveSnapshot 7 = .ok (.getfield 7, 3) := by decide +kernel
theorem dX10_saveSnapshot_10 : decode cX10_saveSnapshot 10 = .ok (.putfield 299, 3) := by decide +kernel
theorem dX10_saveSnapshot_13 : decode cX10_saveSnapshot 13 = .ok (.aload_n 0, 1) := by decide +kernel
theorem dX10_saveSnapshot_14 : decode cX10_saveSnapshot 14 = .ok (.aload_n 0, 1) := by decide +kernel
theorem dX10_saveSnapshot_15 : decode cX10_saveSnapshot 15 = .ok (.getfield 111, 3) := by decide +kernel
theorem dX10_saveSnapshot_18 : decode cX10_saveSnapshot 18 = .ok (.putfield 302, 3) := by decide +kernel
theorem dX10_saveSnapshot_21 : decode cX10_saveSnapshot 21 = .ok (.iconst 0, 1) := by decide +kernel
theorem dX10_saveSnapshot_22 : decode cX10_saveSnapshot 22 = .ok (.istore_n 1, 1) := by decide +kernel
theorem dX10_saveSnapshot_23 : decode cX10_saveSnapshot 23 = .ok (.iload_n 1, 1) := by decide +kernel
theorem dX10_saveSnapshot_24 : decode cX10_saveSnapshot 24 = .ok (.bipush 8, 2) := by decide +kernel
theorem dX10_saveSnapshot_26 : decode cX10_saveSnapshot 26 = .ok (.if_icmp .ge 33, 3) := by decide +kernel
theorem dX10_saveSnapshot_29 : decode cX10_saveSnapshot 29 = .ok (.aload_n 0, 1) := by decide +kernel
theorem dX10_saveSnapshot_30 : decode cX10_saveSnapshot 30 = .ok (.getfield 102, 3) := by decide +kernel
theorem dX10_saveSnapshot_33 : decode cX10_saveSnapshot 33 = .ok (.iload_n 1, 1) := by decide +kernel
theorem dX10_saveSnapshot_34 : decode cX10_saveSnapshot 34 = .ok (.aload_n 0, 1) := by decide +kernel
theorem dX10_saveSnapshot_35 : decode cX10_saveSnapshot 35 = .ok (.getfield 13, 3) := by decide +kernel
theorem dX10_saveSnapshot_38 : decode cX10_saveSnapshot 38 = .ok (.iload_n 1, 1) := by decide +kernel
theorem dX10_saveSnapshot_39 : decode cX10_saveSnapshot 39 = .ok (.iaload, 1) := by decide +kernel
theorem dX10_saveSnapshot_40 : decode cX10_saveSnapshot 40 = .ok (.iastore, 1) := by decide +kernel
theorem dX10_saveSnapshot_41 : decode cX10_saveSnapshot 41 = .ok (.aload_n 0, 1) := by decide +kernel
theorem dX10_saveSnapshot_42 : decode cX10_saveSnapshot 42 = .ok (.getfield 105, 3) := by decide +kernel
theorem dX10_saveSnapshot_45 : decode cX10_saveSnapshot 45 = .ok (.iload_n 1, 1) := by decide +kernel
theorem dX10_saveSnapshot_46 : decode cX10_saveSnapshot 46 = .ok (.aload_n 0, 1) := by decide +kernel
theorem dX10_saveSnapshot_47 : decode cX10_saveSnapshot 47 = .ok (.getfield 17, 3) := by decide +kernel
theorem dX10_saveSnapshot_50 : decode cX10_saveSnapshot 50 = .ok (.iload_n 1, 1) := by decide +kernel
theorem dX10_saveSnapshot_51 : decode cX10_saveSnapshot 51 = .ok (.iaload, 1) := by decide +kernel
theorem dX10_saveSnapshot_52 : decode cX10_saveSnapshot 52 = .ok (.iastore, 1) := by decide +kernel
theorem dX10_saveSnapshot_53 : decode cX10_saveSnapshot 53 = .ok (.iinc 1 1, 3) := by decide +kernel
theorem dX10_saveSnapshot_56 : decode cX10_saveSnapshot 56 = .ok (.goto (-33), 3) := by decide +kernel
theorem dX10_saveSnapshot_59 : decode cX10_saveSnapshot 59 = .ok (.iconst 0, 1) := by decide +kernel
theorem dX10_saveSnapshot_60 : decode cX10_saveSnapshot 60 = .ok (.istore_n 1, 1) := by decide +kernel
theorem dX10_saveSnapshot_61 : decode cX10_saveSnapshot 61 = .ok (.iload_n 1, 1) := by decide +kernel
theorem dX10_saveSnapshot_62 : decode cX10_saveSnapshot 62 = .ok (.bipush 81, 2) := by decide +kernel
theorem dX10_saveSnapshot_64 : decode cX10_saveSnapshot 64 = .ok (.if_icmp .ge 21, 3) := by decide +kernel
theorem dX10_saveSnapshot_67 : decode cX10_saveSnapshot 67 = .ok (.aload_n 0, 1) := by decide +kernel
theorem dX10_saveSnapshot_68 : decode cX10_saveSnapshot 68 = .ok (.getfield 108, 3) := by decide +kernel
theorem dX10_saveSnapshot_71 : decode cX10_saveSnapshot 71 = .ok (.iload_n 1, 1) := by decide +kernel
theorem dX10_saveSnapshot_72 : decode cX10_saveSnapshot 72 = .ok (.aload_n 0, 1) := by decide +kernel
theorem dX10_saveSnapshot_73 : decode cX10_saveSnapshot 73 = .ok (.getfield 20, 3) := by decide +kernel
theorem dX10_saveSnapshot_76 : decode cX10_saveSnapshot 76 = .ok (.iload_n 1, 1) := by decide +kernel
theorem dX10_saveSnapshot_77 : decode cX10_saveSnapshot 77 = .ok (.iaload, 1) := by decide +kernel
theorem dX10_saveSnapshot_78 : decode cX10_saveSnapshot 78 = .ok (.iastore, 1) := by decide +kernel
theorem dX10_saveSnapshot_79 : decode cX10_saveSnapshot 79 = .ok (.iinc 1 1, 3) := by decide +kernel
theorem dX10_saveSnapshot_82 : decode cX10_saveSnapshot 82 = .ok (.goto (-21), 3) := by decide +kernel
theorem dX10_saveSnapshot_85 : decode cX10_saveSnapshot 85 = .ok (.aload_n 0, 1) := by decide +kernel
theorem dX10_saveSnapshot_86 : decode cX10_saveSnapshot 86 = .ok (.getfield 111, 3) := by decide +kernel
theorem dX10_saveSnapshot_89 : decode cX10_saveSnapshot 89 = .ok (.ireturn, 1) := by decide +kernel
theorem dX10_restoreSnapshot_0 : decode cX10_restoreSnapshot 0 = .ok (.aload_n 0, 1) := by decide +kernel
theorem dX10_restoreSnapshot_1 : decode cX10_restoreSnapshot 1 = .ok (.getfield 296, 3) := by decide +kernel
theorem dX10_restoreSnapshot_4 : decode cX10_restoreSnapshot 4 = .ok (.ifCond .ne 6, 3) := by decide +kernel
theorem dX10_restoreSnapshot_7 : decode cX10_restoreSnapshot 7 = .ok (.bipush (-5), 2) := by decide +kernel
theorem dX10_restoreSnapshot_9 : decode cX10_restoreSnapshot 9 = .ok (.ireturn, 1) := by decide +kernel
theorem dX10_restoreSnapshot_10 : decode cX10_restoreSnapshot 10 = .ok (.aload_n 0, 1) := by decide +kernel
theorem dX10_restoreSnapshot_11 : decode cX10_restoreSnapshot 11 = .ok (.aload_n 0, 1) := by decide +kernel
theorem dX10_restoreSnapshot_12 : decode cX10_restoreSnapshot 12 = .ok (.getfield 299, 3) := by decide +kernel
theorem dX10_restoreSnapshot_15 : decode cX10_restoreSnapshot 15 = .ok (.putfield 7, 3) := by decide +kernel
theorem dX10_restoreSnapshot_18 : decode cX10_restoreSnapshot 18 = .ok (.aload_n 0, 1) := by decide +kernel
theorem dX10_restoreSnapshot_19 : decode cX10_restoreSnapshot 19 = .ok (.aload_n 0, 1) := by decide +kernel
theorem dX10_restoreSnapshot_20 : decode cX10_restoreSnapshot 20 = .ok (.getfield 302, 3) := by decide +kernel
theorem dX10_restoreSnapshot_23 : decode cX10_restoreSnapshot 23 = .ok (.putfield 111, 3) := by decide +kernel
theorem dX10_restoreSnapshot_26 : decode cX10_restoreSnapshot 26 = .ok (.iconst 0, 1) := by decide +kernel
theorem dX10_restoreSnapshot_27 : decode cX10_restoreSnapshot 27 = .ok (.istore_n 1, 1) := by decide +kernel
theorem dX10_restoreSnapshot_28 : decode cX10_restoreSnapshot 28 = .ok (.iload_n 1, 1) := by decide +kernel
theorem dX10_restoreSnapshot_29 : decode cX10_restoreSnapshot 29 = .ok (.bipush 8, 2) := by decide +kernel
theorem dX10_restoreSnapshot_31 : decode cX10_restoreSnapshot 31 = .ok (.if_icmp .ge 33, 3) := by decide +kernel
theorem dX10_restoreSnapshot_34 : decode cX10_restoreSnapshot 34 = .ok (.aload_n 0, 1) := by decide +kernel
theorem dX10_restoreSnapshot_35 : decode cX10_restoreSnapshot 35 = .ok (.getfield 13, 3) := by decide +kernel
theorem dX10_restoreSnapshot_38 : decode cX10_restoreSnapshot 38 = .ok (.iload_n 1, 1) := by decide +kernel
theorem dX10_restoreSnapshot_39 : decode cX10_restoreSnapshot 39 = .ok (.aload_n 0, 1) := by decide +kernel
theorem dX10_restoreSnapshot_40 : decode cX10_restoreSnapshot 40 = .ok (.getfield 102, 3) := by decide +kernel
theorem dX10_restoreSnapshot_43 : decode cX10_restoreSnapshot 43 = .ok (.iload_n 1, 1) := by decide +kernel
theorem dX10_restoreSnapshot_44 : decode cX10_restoreSnapshot 44 = .ok (.iaload, 1) := by decide +kernel
theorem dX10_restoreSnapshot_45 : decode cX10_restoreSnapshot 45 = .ok (.iastore, 1) := by decide +kernel
theorem dX10_restoreSnapshot_46 : decode cX10_restoreSnapshot 46 = .ok (.aload_n 0, 1) := by decide +kernel
theorem dX10_restoreSnapshot_47 : decode cX10_restoreSnapshot 47 = .ok (.getfield 17, 3) := by decide +kernel
theorem dX10_restoreSnapshot_50 : decode cX10_restoreSnapshot 50 = .ok (.iload_n 1, 1) := by decide +kernel
theorem dX10_restoreSnapshot_51 : decode cX10_restoreSnapshot 51 = .ok (.aload_n 0, 1) := by decide +kernel
theorem dX10_restoreSnapshot_52 : decode cX10_restoreSnapshot 52 = .ok (.getfield 105, 3) := by decide +kernel
theorem dX10_restoreSnapshot_55 : decode cX10_restoreSnapshot 55 = .ok (.iload_n 1, 1) := by decide +kernel
theorem dX10_restoreSnapshot_56 : decode cX10_restoreSnapshot 56 = .ok (.iaload, 1) := by decide +kernel
theorem dX10_restoreSnapshot_57 : decode cX10_restoreSnapshot 57 = .ok (.iastore, 1) := by decide +kernel
theorem dX10_restoreSnapshot_58 : decode cX10_restoreSnapshot 58 = .ok (.iinc 1 1, 3) := by decide +kernel
theorem dX10_restoreSnapshot_61 : decode cX10_restoreSnapshot 61 = .ok (.goto (-33), 3) := by decide +kernel
theorem dX10_restoreSnapshot_64 : decode cX10_restoreSnapshot 64 = .ok (.iconst 0, 1) := by decide +kernel
theorem dX10_restoreSnapshot_65 : decode cX10_restoreSnapshot 65 = .ok (.istore_n 1, 1) := by decide +kernel
theorem dX10_restoreSnapshot_66 : decode cX10_restoreSnapshot 66 = .ok (.iload_n 1, 1) := by decide +kernel
theorem dX10_restoreSnapshot_67 : decode cX10_restoreSnapshot 67 = .ok (.bipush 81, 2) := by decide +kernel
theorem dX10_restoreSnapshot_69 : decode cX10_restoreSnapshot 69 = .ok (.if_icmp .ge 21, 3) := by decide +kernel
theorem dX10_restoreSnapshot_72 : decode cX10_restoreSnapshot 72 = .ok (.aload_n 0, 1) := by decide +kernel
theorem dX10_restoreSnapshot_73 : decode cX10_restoreSnapshot 73 = .ok (.getfield 20, 3) := by decide +kernel
theorem dX10_restoreSnapshot_76 : decode cX10_restoreSnapshot 76 = .ok (.iload_n 1, 1) := by decide +kernel
theorem dX10_restoreSnapshot_77 : decode cX10_restoreSnapshot 77 = .ok (.aload_n 0, 1) := by decide +kernel
theorem dX10_restoreSnapshot_78 : decode cX10_restoreSnapshot 78 = .ok (.getfield 108, 3) := by decide +kernel
theorem dX10_restoreSnapshot_81 : decode cX10_restoreSnapshot 81 = .ok (.iload_n 1, 1) := by decide +kernel
theorem dX10_restoreSnapshot_82 : decode cX10_restoreSnapshot 82 = .ok (.iaload, 1) := by decide +kernel
theorem dX10_restoreSnapshot_83 : decode cX10_restoreSnapshot 83 = .ok (.iastore, 1) := by decide +kernel
theorem dX10_restoreSnapshot_84 : decode cX10_restoreSnapshot 84 = .ok (.iinc 1 1, 3) := by decide +kernel
theorem dX10_restoreSnapshot_87 : decode cX10_restoreSnapshot 87 = .ok (.goto (-21), 3) := by decide +kernel
theorem dX10_restoreSnapshot_90 : decode cX10_restoreSnapshot 90 = .ok (.aload_n 0, 1) := by decide +kernel
theorem dX10_restoreSnapshot_91 : decode cX10_restoreSnapshot 91 = .ok (.iconst 0, 1) := by decide +kernel
theorem dX10_restoreSnapshot_92 : decode cX10_restoreSnapshot 92 = .ok (.putfield 122, 3) := by decide +kernel
theorem dX10_restoreSnapshot_95 : decode cX10_restoreSnapshot 95 = .ok (.aload_n 0, 1) := by decide +kernel
theorem dX10_restoreSnapshot_96 : decode cX10_restoreSnapshot 96 = .ok (.getfield 111, 3) := by decide +kernel
theorem dX10_restoreSnapshot_99 : decode cX10_restoreSnapshot 99 = .ok (.ireturn, 1) := by decide +kernel
theorem dJ5_init_d00df_0 : decode cJ5_init_d00df 0 = .ok (.aload_n 0, 1) := by decide +kernel
theorem dJ5_init_d00df_1 : decode cJ5_init_d00df 1 = .ok (.invokespecial 3, 3) := by decide +kernel
theorem dJ5_init_d00df_4 : decode cJ5_init_d00df 4 = .ok (.getstatic 18, 3) := by decide +kernel
theorem dJ5_init_d00df_7 : decode cJ5_init_d00df 7 = .ok (.ifCond .eq 18, 3) := by decide +kernel
theorem dJ5_init_d00df_10 : decode cJ5_init_d00df 10 = .ok (.aload_n 0, 1) := by decide +kernel
theorem dJ5_init_d00df_11 : decode cJ5_init_d00df 11 = .ok (.iload_n 1, 1) := by decide +kernel
theorem dJ5_init_d00df_12 : decode cJ5_init_d00df 12 = .ok (.newarray .byte, 2) := by decide +kernel
theorem dJ5_init_d00df_14 : decode cJ5_init_d00df 14 = .ok (.putfield 15, 3) := by decide +kernel
theorem dJ5_init_d00df_17 : decode cJ5_init_d00df 17 = .ok (.aload_n 0, 1) := by decide +kernel
theorem dJ5_init_d00df_18 : decode cJ5_init_d00df 18 = .ok (.iconst 0, 1) := by decide +kernel
theorem dJ5_init_d00df_19 : decode cJ5_init_d00df 19 = .ok (.putfield 22, 3) := by decide +kernel
theorem dJ5_init_d00df_22 : decode cJ5_init_d00df 22 = .ok (.goto 16, 3) := by decide +kernel
theorem dJ5_init_d00df_25 : decode cJ5_init_d00df 25 = .ok (.aload_n 0, 1) := by decide +kernel
theorem dJ5_init_d00df_26 : decode cJ5_init_d00df 26 = .ok (.iload_n 1, 1) := by decide +kernel
theorem dJ5_init_d00df_27 : decode cJ5_init_d00df 27 = .ok (.invokestatic 26, 3) := by decide +kernel
theorem dJ5_init_d00df_30 : decode cJ5_init_d00df 30 = .ok (.putfield 15, 3) := by decide +kernel
theorem dJ5_init_d00df_33 : decode cJ5_init_d00df 33 = .ok (.aload_n 0, 1) := by decide +kernel
theorem dJ5_init_d00df_34 : decode cJ5_init_d00df 34 = .ok (.iconst 1, 1) := by decide +kernel
theorem dJ5_init_d00df_35 : decode cJ5_init_d00df 35 = .ok (.putfield 22, 3) := by decide +kernel
theorem dJ5_init_d00df_38 : decode cJ5_init_d00df 38 = .ok (.return_, 1) := by decide +kernel
theorem dJ5_length_8abf5_0 : decode cJ5_length_8abf5 0 = .ok (.aload_n 0, 1) := by decide +kernel
theorem dJ5_length_8abf5_1 : decode cJ5_length_8abf5 1 = .ok (.getfield 79, 3) := by decide +kernel
theorem dJ5_length_8abf5_4 : decode cJ5_length_8abf5 4 = .ok (.ireturn, 1) := by decide +kernel
theorem dJ5_ensureCapacityInternal_d00df_0 : decode cJ5_ensureCapacityInternal_d00df 0 = .ok (.aload_n 0, 1) := by decide +kernel
theorem dJ5_ensureCapacityInternal_d00df_1 : decode cJ5_ensureCapacityInternal_d00df 1 = .ok (.getfield 15, 3) := by decide +kernel
theorem dJ5_ensureCapacityInternal_d00df_4 : decode cJ5_ensureCapacityInternal_d00df 4 = .ok (.arraylength, 1) := by decide +kernel
theorem dJ5_ensureCapacityInternal_d00df_5 : decode cJ5_ensureCapacityInternal_d00df 5 = .ok (.aload_n 0, 1) := by decide +kernel
theorem dJ5_ensureCapacityInternal_d00df_6 : decode cJ5_ensureCapacityInternal_d00df 6 = .ok (.getfield 22, 3) := by decide +kernel
theorem dJ5_ensureCapacityInternal_d00df_9 : decode cJ5_ensureCapacityInternal_d00df 9 = .ok (.ishr, 1) := by decide +kernel
theorem dJ5_ensureCapacityInternal_d00df_10 : decode cJ5_ensureCapacityInternal_d00df 10 = .ok (.istore_n 2, 1) := by decide +kernel
theorem dJ5_ensureCapacityInternal_d00df_11 : decode cJ5_ensureCapacityInternal_d00df 11 = .ok (.iload_n 1, 1) := by decide +kernel
theorem dJ5_ensureCapacityInternal_d00df_12 : decode cJ5_ensureCapacityInternal_d00df 12 = .ok (.iload_n 2, 1) := by decide +kernel
theorem dJ5_ensureCapacityInternal_d00df_13 : decode cJ5_ensureCapacityInternal_d00df 13 = .ok (.isub, 1) := by decide +kernel
theorem dJ5_ensureCapacityInternal_d00df_14 : decode cJ5_ensureCapacityInternal_d00df 14 = .ok (.ifCond .le 24, 3) := by decide +kernel
theorem dJ5_ensureCapacityInternal_d00df_17 : decode cJ5_ensureCapacityInternal_d00df 17 = .ok (.aload_n 0, 1) := by decide +kernel
theorem dJ5_ensureCapacityInternal_d00df_18 : decode cJ5_ensureCapacityInternal_d00df 18 = .ok (.aload_n 0, 1) := by decide +kernel
theorem dJ5_ensureCapacityInternal_d00df_19 : decode cJ5_ensureCapacityInternal_d00df 19 = .ok (.getfield 15, 3) := by decide +kernel
theorem dJ5_ensureCapacityInternal_d00df_22 : decode cJ5_ensureCapacityInternal_d00df 22 = .ok (.aload_n 0, 1) := by decide +kernel
theorem dJ5_ensureCapacityInternal_d00df_23 : decode cJ5_ensureCapacityInternal_d00df 23 = .ok (.iload_n 1, 1) := by decide +kernel
theorem dJ5_ensureCapacityInternal_d00df_24 : decode cJ5_ensureCapacityInternal_d00df 24 = .ok (.invokevirtual 104, 3) := by decide +kernel
theorem dJ5_ensureCapacityInternal_d00df_27 : decode cJ5_ensureCapacityInternal_d00df 27 = .ok (.aload_n 0, 1) := by decide +kernel
theorem dJ5_ensureCapacityInternal_d00df_28 : decode cJ5_ensureCapacityInternal_d00df 28 = .ok (.getfield 22, 3) := by decide +kernel
theorem dJ5_ensureCapacityInternal_d00df_31 : decode cJ5_ensureCapacityInternal_d00df 31 = .ok (.ishl, 1) := by decide +kernel
theorem dJ5_ensureCapacityInternal_d00df_32 : decode cJ5_ensureCapacityInternal_d00df 32 = .ok (.invokestatic 108, 3) := by decide +kernel
theorem dJ5_ensureCapacityInternal_d00df_35 : decode cJ5_ensureCapacityInternal_d00df 35 = .ok (.putfield 15, 3) := by decide +kernel
theorem dJ5_ensureCapacityInternal_d00df_38 : decode cJ5_ensureCapacityInternal_d00df 38 = .ok (.return_, 1) := by decide +kernel
theorem dJ5_newCapacity_0f7a4_0 : decode cJ5_newCapacity_0f7a4 0 = .ok (.aload_n 0, 1) := by decide +kernel
theorem dJ5_newCapacity_0f7a4_1 : decode cJ5_newCapacity_0f7a4 1 = .ok (.getfield 15, 3) := by decide +kernel
theorem dJ5_newCapacity_0f7a4_4 : decode cJ5_newCapacity_0f7a4 4 = .ok (.arraylength, 1) := by decide +kernel
theorem dJ5_newCapacity_0f7a4_5 : decode cJ5_newCapacity_0f7a4 5 = .ok (.istore_n 2, 1) := by decide +kernel
theorem dJ5_newCapacity_0f7a4_6 : decode cJ5_newCapacity_0f7a4 6 = .ok (.iload_n 1, 1) := by decide +kernel
theorem dJ5_newCapacity_0f7a4_7 : decode cJ5_newCapacity_0f7a4 7 = .ok (.aload_n 0, 1) := by decide +kernel
theorem dJ5_newCapacity_0f7a4_8 : decode cJ5_newCapacity_0f7a4 8 = .ok (.getfield 22, 3) := by decide +kernel
theorem dJ5_newCapacity_0f7a4_11 : decode cJ5_newCapacity_0f7a4 11 = .ok (.ishl, 1) := by decide +kernel
theorem dJ5_newCapacity_0f7a4_12 : decode cJ5_newCapacity_0f7a4 12 = .ok (.istore_n 3, 1) := by decide +kernel
theorem dJ5_newCapacity_0f7a4_13 : decode cJ5_newCapacity_0f7a4 13 = .ok (.iload_n 3, 1) := by decide +kernel
theorem dJ5_newCapacity_0f7a4_14 : decode cJ5_newCapacity_0f7a4 14 = .ok (.iload_n 2, 1) := by decide +kernel
theorem dJ5_newCapacity_0f7a4_15 : decode cJ5_newCapacity_0f7a4 15 = .ok (.isub, 1) := by decide +kernel
theorem dJ5_newCapacity_0f7a4_16 : decode cJ5_newCapacity_0f7a4 16 = .ok (.istore 4, 2) := by decide +kernel
theorem dJ5_newCapacity_0f7a4_18 : decode cJ5_newCapacity_0f7a4 18 = .ok (.iload_n 2, 1) := by decide +kernel
theorem dJ5_newCapacity_0f7a4_19 : decode cJ5_newCapacity_0f7a4 19 = .ok (.iload 4, 2) := by decide +kernel
theorem dJ5_newCapacity_0f7a4_21 : decode cJ5_newCapacity_0f7a4 21 = .ok (.iload_n 2, 1) := by decide +kernel
theorem dJ5_newCapacity_0f7a4_22 : decode cJ5_newCapacity_0f7a4 22 = .ok (.iconst 2, 1) := by decide +kernel
theorem dJ5_newCapacity_0f7a4_23 : decode cJ5_newCapacity_0f7a4 23 = .ok (.aload_n 0, 1) := by decide +kernel
theorem dJ5_newCapacity_0f7a4_24 : decode cJ5_newCapacity_0f7a4 24 = .ok (.getfield 22, 3) := by decide +kernel
theorem dJ5_newCapacity_0f7a4_27 : decode cJ5_newCapacity_0f7a4 27 = .ok (.ishl, 1) := by decide +kernel
theorem dJ5_newCapacity_0f7a4_28 : decode cJ5_newCapacity_0f7a4 28 = .ok (.iadd, 1) := by decide +kernel
theorem dJ5_newCapacity_0f7a4_29 : decode cJ5_newCapacity_0f7a4 29 = .ok (.invokestatic 114, 3) := by decide +kernel
theorem dJ5_newCapacity_0f7a4_32 : decode cJ5_newCapacity_0f7a4 32 = .ok (.istore 5, 2) := by decide +kernel
theorem dJ5_newCapacity_0f7a4_34 : decode cJ5_newCapacity_0f7a4 34 = .ok (.iload 5, 2) := by decide +kernel
theorem dJ5_newCapacity_0f7a4_36 : decode cJ5_newCapacity_0f7a4 36 = .ok (.ldc 39, 2) := by decide +kernel
theorem dJ5_newCapacity_0f7a4_38 : decode cJ5_newCapacity_0f7a4 38 = .ok (.if_icmp .ne 13, 3) := by decide +kernel
theorem dJ5_newCapacity_0f7a4_41 : decode cJ5_newCapacity_0f7a4 41 = .ok (.new 120, 3) := by decide +kernel
theorem dJ5_newCapacity_0f7a4_44 : decode cJ5_newCapacity_0f7a4 44 = .ok (.dup, 1) := by decide +kernel
theorem dJ5_newCapacity_0f7a4_45 : decode cJ5_newCapacity_0f7a4 45 = .ok (.ldc 122, 2) := by decide +kernel
theorem dJ5_newCapacity_0f7a4_47 : decode cJ5_newCapacity_0f7a4 47 = .ok (.invokespecial 124, 3) := by decide +kernel
theorem dJ5_newCapacity_0f7a4_50 : decode cJ5_newCapacity_0f7a4 50 = .ok (.athrow, 1) := by decide +kernel
theorem dJ5_newCapacity_0f7a4_51 : decode cJ5_newCapacity_0f7a4 51 = .ok (.iload 5, 2) := by decide +kernel
theorem dJ5_newCapacity_0f7a4_53 : decode cJ5_newCapacity_0f7a4 53 = .ok (.aload_n 0, 1) := by decide +kernel
theorem dJ5_newCapacity_0f7a4_54 : decode cJ5_newCapacity_0f7a4 54 = .ok (.getfield 22, 3) := by decide +kernel
theorem dJ5_newCapacity_0f7a4_57 : decode cJ5_newCapacity_0f7a4 57 = .ok (.ishr, 1) := by decide +kernel
theorem dJ5_newCapacity_0f7a4_58 : decode cJ5_newCapacity_0f7a4 58 = .ok (.ireturn, 1) := by decide +kernel
theorem dJ5_inflate_da8c8_0 : decode cJ5_inflate_da8c8 0 = .ok (.aload_n 0, 1) := by decide +kernel
theorem dJ5_inflate_da8c8_1 : decode cJ5_inflate_da8c8 1 = .ok (.invokevirtual 83, 3) := by decide +kernel
theorem dJ5_inflate_da8c8_4 : decode cJ5_inflate_da8c8 4 = .ok (.ifCond .ne 4, 3) := by decide +kernel
theorem dJ5_inflate_da8c8_7 : decode cJ5_inflate_da8c8 7 = .ok (.return_, 1) := by decide +kernel
theorem dJ5_inflate_da8c8_8 : decode cJ5_inflate_da8c8 8 = .ok (.aload_n 0, 1) := by decide +kernel
theorem dJ5_inflate_da8c8_9 : decode cJ5_inflate_da8c8 9 = .ok (.getfield 15, 3) := by decide +kernel
theorem dJ5_inflate_da8c8_12 : decode cJ5_inflate_da8c8 12 = .ok (.arraylength, 1) := by decide +kernel
theorem dJ5_inflate_da8c8_13 : decode cJ5_inflate_da8c8 13 = .ok (.invokestatic 26, 3) := by decide +kernel
theorem dJ5_inflate_da8c8_16 : decode cJ5_inflate_da8c8 16 = .ok (.astore_n 1, 1) := by decide +kernel
theorem dJ5_inflate_da8c8_17 : decode cJ5_inflate_da8c8 17 = .ok (.aload_n 0, 1) := by decide +kernel
theorem dJ5_inflate_da8c8_18 : decode cJ5_inflate_da8c8 18 = .ok (.getfield 15, 3) := by decide +kernel
theorem dJ5_inflate_da8c8_21 : decode cJ5_inflate_da8c8 21 = .ok (.iconst 0, 1) := by decide +kernel
theorem dJ5_inflate_da8c8_22 : decode cJ5_inflate_da8c8 22 = .ok (.aload_n 1, 1) := by decide +kernel
theorem dJ5_inflate_da8c8_23 : decode cJ5_inflate_da8c8 23 = .ok (.iconst 0, 1) := by decide +kernel
theorem dJ5_inflate_da8c8_24 : decode cJ5_inflate_da8c8 24 = .ok (.aload_n 0, 1) := by decide +kernel
theorem dJ5_inflate_da8c8_25 : decode cJ5_inflate_da8c8 25 = .ok (.getfield 79, 3) := by decide +kernel
theorem dJ5_inflate_da8c8_28 : decode cJ5_inflate_da8c8 28 = .ok (.invokestatic 125, 3) := by decide +kernel
theorem dJ5_inflate_da8c8_31 : decode cJ5_inflate_da8c8 31 = .ok (.aload_n 0, 1) := by decide +kernel
theorem dJ5_inflate_da8c8_32 : decode cJ5_inflate_da8c8 32 = .ok (.aload_n 1, 1) := by decide +kernel
theorem dJ5_inflate_da8c8_33 : decode cJ5_inflate_da8c8 33 = .ok (.putfield 15, 3) := by decide +kernel
theorem dJ5_inflate_da8c8_36 : decode cJ5_inflate_da8c8 36 = .ok (.aload_n 0, 1) := by decide +kernel
theorem dJ5_inflate_da8c8_37 : decode cJ5_inflate_da8c8 37 = .ok (.iconst 1, 1) := by decide +kernel
theorem dJ5_inflate_da8c8_38 : decode cJ5_inflate_da8c8 38 = .ok (.putfield 22, 3) := by decide +kernel
theorem dJ5_inflate_da8c8_41 : decode cJ5_inflate_da8c8 41 = .ok (.return_, 1) := by decide +kernel
theorem dJ5_setLength_d00df_0 : decode cJ5_setLength_d00df 0 = .ok (.iload_n 1, 1) := by decide +kernel
theorem dJ5_setLength_d00df_1 : decode cJ5_setLength_d00df 1 = .ok (.ifCond .ge 12, 3) := by decide +kernel
theorem dJ5_setLength_d00df_4 : decode cJ5_setLength_d00df 4 = .ok (.new 129, 3) := by decide +kernel
theorem dJ5_setLength_d00df_7 : decode cJ5_setLength_d00df 7 = .ok (.dup, 1) := by decide +kernel
theorem dJ5_setLength_d00df_8 : decode cJ5_setLength_d00df 8 = .ok (.iload_n 1, 1) := by decide +kernel
theorem dJ5_setLength_d00df_9 : decode cJ5_setLength_d00df 9 = .ok (.invokespecial 131, 3) := by decide +kernel
theorem dJ5_setLength_d00df_12 : decode cJ5_setLength_d00df 12 = .ok (.athrow, 1) := by decide +kernel
theorem dJ5_setLength_d00df_13 : decode cJ5_setLength_d00df 13 = .ok (.aload_n 0, 1) := by decide +kernel
theorem dJ5_setLength_d00df_14 : decode cJ5_setLength_d00df 14 = .ok (.iload_n 1, 1) := by decide +kernel
theorem dJ5_setLength_d00df_15 : decode cJ5_setLength_d00df 15 = .ok (.invokevirtual 100, 3) := by decide +kernel
theorem dJ5_setLength_d00df_18 : decode cJ5_setLength_d00df 18 = .ok (.aload_n 0, 1) := by decide +kernel
theorem dJ5_setLength_d00df_19 : decode cJ5_setLength_d00df 19 = .ok (.getfield 79, 3) := by decide +kernel
theorem dJ5_setLength_d00df_22 : decode cJ5_setLength_d00df 22 = .ok (.iload_n 1, 1) := by decide +kernel
theorem dJ5_setLength_d00df_23 : decode cJ5_setLength_d00df 23 = .ok (.if_icmp .ge 40, 3) := by decide +kernel
theorem dJ5_setLength_d00df_26 : decode cJ5_setLength_d00df 26 = .ok (.aload_n 0, 1) := by decide +kernel
theorem dJ5_setLength_d00df_27 : decode cJ5_setLength_d00df 27 = .ok (.invokevirtual 83, 3) := by decide +kernel
theorem dJ5_setLength_d00df_30 : decode cJ5_setLength_d00df 30 = .ok (.ifCond .eq 18, 3) := by decide +kernel
theorem dJ5_setLength_d00df_33 : decode cJ5_setLength_d00df 33 = .ok (.aload_n 0, 1) := by decide +kernel
theorem dJ5_setLength_d00df_34 : decode cJ5_setLength_d00df 34 = .ok (.getfield 15, 3) := by decide +kernel
theorem dJ5_setLength_d00df_37 : decode cJ5_setLength_d00df 37 = .ok (.aload_n 0, 1) := by decide +kernel
theorem dJ5_setLength_d00df_38 : decode cJ5_setLength_d00df 38 = .ok (.getfield 79, 3) := by decide +kernel
theorem dJ5_setLength_d00df_41 : decode cJ5_setLength_d00df 41 = .ok (.iload_n 1, 1) := by decide +kernel
theorem dJ5_setLength_d00df_42 : decode cJ5_setLength_d00df 42 = .ok (.invokestatic 133, 3) := by decide +kernel
theorem dJ5_setLength_d00df_45 : decode cJ5_setLength_d00df 45 = .ok (.goto 31, 3) := by decide +kernel
theorem dJ5_setLength_d00df_48 : decode cJ5_setLength_d00df 48 = .ok (.aload_n 0, 1) := by decide +kernel
theorem dJ5_setLength_d00df_49 : decode cJ5_setLength_d00df 49 = .ok (.getfield 15, 3) := by decide +kernel
theorem dJ5_setLength_d00df_52 : decode cJ5_setLength_d00df 52 = .ok (.aload_n 0, 1) := by decide +kernel
theorem dJ5_setLength_d00df_53 : decode cJ5_setLength_d00df 53 = .ok (.getfield 79, 3) := by decide +kernel
theorem dJ5_setLength_d00df_56 : decode cJ5_setLength_d00df 56 = .ok (.iload_n 1, 1) := by decide +kernel
theorem dJ5_setLength_d00df_57 : decode cJ5_setLength_d00df 57 = .ok (.invokestatic 137, 3) := by decide +kernel
theorem dJ5_setLength_d00df_60 : decode cJ5_setLength_d00df 60 = .ok (.goto 16, 3) := by decide +kernel
theorem dJ5_setLength_d00df_63 : decode cJ5_setLength_d00df 63 = .ok (.aload_n 0, 1) := by decide +kernel
theorem dJ5_setLength_d00df_64 : decode cJ5_setLength_d00df 64 = .ok (.getfield 79, 3) := by decide +kernel
theorem dJ5_setLength_d00df_67 : decode cJ5_setLength_d00df 67 = .ok (.iload_n 1, 1) := by decide +kernel
theorem dJ5_setLength_d00df_68 : decode cJ5_setLength_d00df 68 = .ok (.if_icmp .le 8, 3) := by decide +kernel
theorem dJ5_setLength_d00df_71 : decode cJ5_setLength_d00df 71 = .ok (.aload_n 0, 1) := by decide +kernel
theorem dJ5_setLength_d00df_72 : decode cJ5_setLength_d00df 72 = .ok (.iconst 1, 1) := by decide +kernel
theorem dJ5_setLength_d00df_73 : decode cJ5_setLength_d00df 73 = .ok (.putfield 73, 3) := by decide +kernel
theorem dJ5_setLength_d00df_76 : decode cJ5_setLength_d00df 76 = .ok (.aload_n 0, 1) := by decide +kernel
theorem dJ5_setLength_d00df_77 : decode cJ5_setLength_d00df 77 = .ok (.iload_n 1, 1) := by decide +kernel
theorem dJ5_setLength_d00df_78 : decode cJ5_setLength_d00df 78 = .ok (.putfield 79, 3) := by decide +kernel
theorem dJ5_setLength_d00df_81 : decode cJ5_setLength_d00df 81 = .ok (.return_, 1) := by decide +kernel
theorem dJ5_charAt_5068e_0 : decode cJ5_charAt_5068e 0 = .ok (.aload_n 0, 1) := by decide +kernel
theorem dJ5_charAt_5068e_1 : decode cJ5_charAt_5068e 1 = .ok (.getfield 22, 3) := by decide +kernel
theorem dJ5_charAt_5068e_4 : decode cJ5_charAt_5068e 4 = .ok (.istore_n 2, 1) := by decide +kernel
theorem dJ5_charAt_5068e_5 : decode cJ5_charAt_5068e 5 = .ok (.aload_n 0, 1) := by decide +kernel
theorem dJ5_charAt_5068e_6 : decode cJ5_charAt_5068e 6 = .ok (.getfield 15, 3) := by decide +kernel
theorem dJ5_charAt_5068e_9 : decode cJ5_charAt_5068e 9 = .ok (.astore_n 3, 1) := by decide +kernel
theorem dJ5_charAt_5068e_10 : decode cJ5_charAt_5068e 10 = .ok (.aload_n 0, 1) := by decide +kernel
theorem dJ5_charAt_5068e_11 : decode cJ5_charAt_5068e 11 = .ok (.getfield 79, 3) := by decide +kernel
theorem dJ5_charAt_5068e_14 : decode cJ5_charAt_5068e 14 = .ok (.aload_n 3, 1) := by decide +kernel
theorem dJ5_charAt_5068e_15 : decode cJ5_charAt_5068e 15 = .ok (.arraylength, 1) := by decide +kernel
theorem dJ5_charAt_5068e_16 : decode cJ5_charAt_5068e 16 = .ok (.iload_n 2, 1) := by decide +kernel
theorem dJ5_charAt_5068e_17 : decode cJ5_charAt_5068e 17 = .ok (.ishr, 1) := by decide +kernel
theorem dJ5_charAt_5068e_18 : decode cJ5_charAt_5068e 18 = .ok (.invokestatic 138, 3) := by decide +kernel
theorem dJ5_charAt_5068e_21 : decode cJ5_charAt_5068e 21 = .ok (.istore 4, 2) := by decide +kernel
theorem dJ5_charAt_5068e_23 : decode cJ5_charAt_5068e 23 = .ok (.iload_n 1, 1) := by decide +kernel
theorem dJ5_charAt_5068e_24 : decode cJ5_charAt_5068e 24 = .ok (.iload 4, 2) := by decide +kernel
theorem dJ5_charAt_5068e_26 : decode cJ5_charAt_5068e 26 = .ok (.invokestatic 144, 3) := by decide +kernel
theorem dJ5_charAt_5068e_29 : decode cJ5_charAt_5068e 29 = .ok (.iload_n 2, 1) := by decide +kernel
theorem dJ5_charAt_5068e_30 : decode cJ5_charAt_5068e 30 = .ok (.ifCond .ne 12, 3) := by decide +kernel
theorem dJ5_charAt_5068e_33 : decode cJ5_charAt_5068e 33 = .ok (.aload_n 3, 1) := by decide +kernel
theorem dJ5_charAt_5068e_34 : decode cJ5_charAt_5068e 34 = .ok (.iload_n 1, 1) := by decide +kernel
theorem dJ5_charAt_5068e_35 : decode cJ5_charAt_5068e 35 = .ok (.baload, 1) := by decide +kernel
theorem dJ5_charAt_5068e_36 : decode cJ5_charAt_5068e 36 = .ok (.sipush 255, 3) := by decide +kernel
theorem dJ5_charAt_5068e_39 : decode cJ5_charAt_5068e 39 = .ok (.iand, 1) := by decide +kernel
theorem dJ5_charAt_5068e_40 : decode cJ5_charAt_5068e 40 = .ok (.i2c, 1) := by decide +kernel
theorem dJ5_charAt_5068e_41 : decode cJ5_charAt_5068e 41 = .ok (.ireturn, 1) := by decide +kernel
theorem dJ5_charAt_5068e_42 : decode cJ5_charAt_5068e 42 = .ok (.aload_n 3, 1) := by decide +kernel
theorem dJ5_charAt_5068e_43 : decode cJ5_charAt_5068e 43 = .ok (.iload_n 1, 1) := by decide +kernel
theorem dJ5_charAt_5068e_44 : decode cJ5_charAt_5068e 44 = .ok (.invokestatic 148, 3) := by decide +kernel
theorem dJ5_charAt_5068e_47 : decode cJ5_charAt_5068e 47 = .ok (.ireturn, 1) := by decide +kernel
theorem dJ5_append_3fe6f_0 : decode cJ5_append_3fe6f 0 = .ok (.aload_n 0, 1) := by decide +kernel
theorem dJ5_append_3fe6f_1 : decode cJ5_append_3fe6f 1 = .ok (.aload_n 0, 1) := by decide +kernel
theorem dJ5_append_3fe6f_2 : decode cJ5_append_3fe6f 2 = .ok (.getfield 79, 3) := by decide +kernel
theorem dJ5_append_3fe6f_5 : decode cJ5_append_3fe6f 5 = .ok (.iconst 1, 1) := by decide +kernel
theorem dJ5_append_3fe6f_6 : decode cJ5_append_3fe6f 6 = .ok (.iadd, 1) := by decide +kernel
theorem dJ5_append_3fe6f_7 : decode cJ5_append_3fe6f 7 = .ok (.invokevirtual 100, 3) := by decide +kernel
theorem dJ5_append_3fe6f_10 : decode cJ5_append_3fe6f 10 = .ok (.aload_n 0, 1) := by decide +kernel
theorem dJ5_append_3fe6f_11 : decode cJ5_append_3fe6f 11 = .ok (.invokevirtual 83, 3) := by decide +kernel
theorem dJ5_append_3fe6f_14 : decode cJ5_append_3fe6f 14 = .ok (.ifCond .eq 31, 3) := by decide +kernel
theorem dJ5_append_3fe6f_17 : decode cJ5_append_3fe6f 17 = .ok (.iload_n 1, 1) := by decide +kernel
theorem dJ5_append_3fe6f_18 : decode cJ5_append_3fe6f 18 = .ok (.invokestatic 191, 3) := by decide +kernel
theorem dJ5_append_3fe6f_21 : decode cJ5_append_3fe6f 21 = .ok (.ifCond .eq 24, 3) := by decide +kernel
theorem dJ5_append_3fe6f_24 : decode cJ5_append_3fe6f 24 = .ok (.aload_n 0, 1) := by decide +kernel
theorem dJ5_append_3fe6f_25 : decode cJ5_append_3fe6f 25 = .ok (.getfield 15, 3) := by decide +kernel
theorem dJ5_append_3fe6f_28 : decode cJ5_append_3fe6f 28 = .ok (.aload_n 0, 1) := by decide +kernel
theorem dJ5_append_3fe6f_29 : decode cJ5_append_3fe6f 29 = .ok (.dup, 1) := by decide +kernel
theorem dJ5_append_3fe6f_30 : decode cJ5_append_3fe6f 30 = .ok (.getfield 79, 3) := by decide +kernel
theorem dJ5_append_3fe6f_33 : decode cJ5_append_3fe6f 33 = .ok (.dup_x1, 1) := by decide +kernel
theorem dJ5_append_3fe6f_34 : decode cJ5_append_3fe6f 34 = .ok (.iconst 1, 1) := by decide +kernel
theorem dJ5_append_3fe6f_35 : decode cJ5_append_3fe6f 35 = .ok (.iadd, 1) := by decide +kernel
theorem dJ5_append_3fe6f_36 : decode cJ5_append_3fe6f 36 = .ok (.putfield 79, 3) := by decide +kernel
theorem dJ5_append_3fe6f_39 : decode cJ5_append_3fe6f 39 = .ok (.iload_n 1, 1) := by decide +kernel
theorem dJ5_append_3fe6f_40 : decode cJ5_append_3fe6f 40 = .ok (.i2b, 1) := by decide +kernel
theorem dJ5_append_3fe6f_41 : decode cJ5_append_3fe6f 41 = .ok (.bastore, 1) := by decide +kernel
theorem dJ5_append_3fe6f_42 : decode cJ5_append_3fe6f 42 = .ok (.goto 33, 3) := by decide +kernel
theorem dJ5_append_3fe6f_45 : decode cJ5_append_3fe6f 45 = .ok (.aload_n 0, 1) := by decide +kernel
theorem dJ5_append_3fe6f_46 : decode cJ5_append_3fe6f 46 = .ok (.invokevirtual 83, 3) := by decide +kernel
theorem dJ5_append_3fe6f_49 : decode cJ5_append_3fe6f 49 = .ok (.ifCond .eq 7, 3) := by decide +kernel
theorem dJ5_append_3fe6f_52 : decode cJ5_append_3fe6f 52 = .ok (.aload_n 0, 1) := by decide +kernel
theorem dJ5_append_3fe6f_53 : decode cJ5_append_3fe6f 53 = .ok (.invokevirtual 195, 3) := by decide +kernel
theorem dJ5_append_3fe6f_56 : decode cJ5_append_3fe6f 56 = .ok (.aload_n 0, 1) := by decide +kernel
theorem dJ5_append_3fe6f_57 : decode cJ5_append_3fe6f 57 = .ok (.getfield 15, 3) := by decide +kernel
theorem dJ5_append_3fe6f_60 : decode cJ5_append_3fe6f 60 = .ok (.aload_n 0, 1) := by decide +kernel
theorem dJ5_append_3fe6f_61 : decode cJ5_append_3fe6f 61 = .ok (.dup, 1) := by decide +kernel
theorem dJ5_append_3fe6f_62 : decode cJ5_append_3fe6f 62 = .ok (.getfield 79, 3) := by decide +kernel
theorem dJ5_append_3fe6f_65 : decode cJ5_append_3fe6f 65 = .ok (.dup_x1, 1) := by decide +kernel
theorem dJ5_append_3fe6f_66 : decode cJ5_append_3fe6f 66 = .ok (.iconst 1, 1) := by decide +kernel
theorem dJ5_append_3fe6f_67 : decode cJ5_append_3fe6f 67 = .ok (.iadd, 1) := by decide +kernel
theorem dJ5_append_3fe6f_68 : decode cJ5_append_3fe6f 68 = .ok (.putfield 79, 3) := by decide +kernel
theorem dJ5_append_3fe6f_71 : decode cJ5_append_3fe6f 71 = .ok (.iload_n 1, 1) := by decide +kernel
theorem dJ5_append_3fe6f_72 : decode cJ5_append_3fe6f 72 = .ok (.invokestatic 197, 3) := by decide +kernel
theorem dJ5_append_3fe6f_75 : decode cJ5_append_3fe6f 75 = .ok (.aload_n 0, 1) := by decide +kernel
theorem dJ5_append_3fe6f_76 : decode cJ5_append_3fe6f 76 = .ok (.areturn, 1) := by decide +kernel
theorem dJ5_append_c97b9_0 : decode cJ5_append_c97b9 0 = .ok (.aload_n 0, 1) := by decide +kernel
theorem dJ5_append_c97b9_1 : decode cJ5_append_c97b9 1 = .ok (.getfield 79, 3) := by decide +kernel
theorem dJ5_append_c97b9_4 : decode cJ5_append_c97b9 4 = .ok (.istore_n 2, 1) := by decide +kernel
theorem dJ5_append_c97b9_5 : decode cJ5_append_c97b9 5 = .ok (.iload_n 2, 1) := by decide +kernel
theorem dJ5_append_c97b9_6 : decode cJ5_append_c97b9 6 = .ok (.iload_n 1, 1) := by decide +kernel
theorem dJ5_append_c97b9_7 : decode cJ5_append_c97b9 7 = .ok (.invokestatic 245, 3) := by decide +kernel
theorem dJ5_append_c97b9_10 : decode cJ5_append_c97b9 10 = .ok (.iadd, 1) := by decide +kernel
theorem dJ5_append_c97b9_11 : decode cJ5_append_c97b9 11 = .ok (.istore_n 3, 1) := by decide +kernel
theorem dJ5_append_c97b9_12 : decode cJ5_append_c97b9 12 = .ok (.aload_n 0, 1) := by decide +kernel
theorem dJ5_append_c97b9_13 : decode cJ5_append_c97b9 13 = .ok (.iload_n 3, 1) := by decide +kernel
theorem dJ5_append_c97b9_14 : decode cJ5_append_c97b9 14 = .ok (.invokevirtual 100, 3) := by decide +kernel
theorem dJ5_append_c97b9_17 : decode cJ5_append_c97b9 17 = .ok (.aload_n 0, 1) := by decide +kernel
theorem dJ5_append_c97b9_18 : decode cJ5_append_c97b9 18 = .ok (.invokevirtual 83, 3) := by decide +kernel
theorem dJ5_append_c97b9_21 : decode cJ5_append_c97b9 21 = .ok (.ifCond .eq 16, 3) := by decide +kernel
theorem dJ5_append_c97b9_24 : decode cJ5_append_c97b9 24 = .ok (.iload_n 1, 1) := by decide +kernel
theorem dJ5_append_c97b9_25 : decode cJ5_append_c97b9 25 = .ok (.iload_n 3, 1) := by decide +kernel
theorem dJ5_append_c97b9_26 : decode cJ5_append_c97b9 26 = .ok (.aload_n 0, 1) := by decide +kernel
theorem dJ5_append_c97b9_27 : decode cJ5_append_c97b9 27 = .ok (.getfield 15, 3) := by decide +kernel
theorem dJ5_append_c97b9_30 : decode cJ5_append_c97b9 30 = .ok (.invokestatic 248, 3) := by decide +kernel
theorem dJ5_append_c97b9_33 : decode cJ5_append_c97b9 33 = .ok (.pop, 1) := by decide +kernel
theorem dJ5_append_c97b9_34 : decode cJ5_append_c97b9 34 = .ok (.goto 14, 3) := by decide +kernel
theorem dJ5_append_c97b9_37 : decode cJ5_append_c97b9 37 = .ok (.iload_n 1, 1) := by decide +kernel
theorem dJ5_append_c97b9_38 : decode cJ5_append_c97b9 38 = .ok (.iload_n 2, 1) := by decide +kernel
theorem dJ5_append_c97b9_39 : decode cJ5_append_c97b9 39 = .ok (.iload_n 3, 1) := by decide +kernel
theorem dJ5_append_c97b9_40 : decode cJ5_append_c97b9 40 = .ok (.aload_n 0, 1) := by decide +kernel
theorem dJ5_append_c97b9_41 : decode cJ5_append_c97b9 41 = .ok (.getfield 15, 3) := by decide +kernel
theorem dJ5_append_c97b9_44 : decode cJ5_append_c97b9 44 = .ok (.invokestatic 251, 3) := by decide +kernel
theorem dJ5_append_c97b9_47 : decode cJ5_append_c97b9 47 = .ok (.pop, 1) := by decide +kernel
theorem dJ5_append_c97b9_48 : decode cJ5_append_c97b9 48 = .ok (.aload_n 0, 1) := by decide +kernel
theorem dJ5_append_c97b9_49 : decode cJ5_append_c97b9 49 = .ok (.iload_n 3, 1) := by decide +kernel
theorem dJ5_append_c97b9_50 : decode cJ5_append_c97b9 50 = .ok (.putfield 79, 3) := by decide +kernel
theorem dJ5_append_c97b9_53 : decode cJ5_append_c97b9 53 = .ok (.aload_n 0, 1) := by decide +kernel
theorem dJ5_append_c97b9_54 : decode cJ5_append_c97b9 54 = .ok (.areturn, 1) := by decide +kernel
theorem dJ5_isLatin1_aae02_0 : decode cJ5_isLatin1_aae02 0 = .ok (.getstatic 18, 3) := by decide +kernel
theorem dJ5_isLatin1_aae02_3 : decode cJ5_isLatin1_aae02 3 = .ok (.ifCond .eq 14, 3) := by decide +kernel
theorem dJ5_isLatin1_aae02_6 : decode cJ5_isLatin1_aae02 6 = .ok (.aload_n 0, 1) := by decide +kernel
theorem dJ5_isLatin1_aae02_7 : decode cJ5_isLatin1_aae02 7 = .ok (.getfield 22, 3) := by decide +kernel
theorem dJ5_isLatin1_aae02_10 : decode cJ5_isLatin1_aae02 10 = .ok (.ifCond .ne 7, 3) := by decide +kernel
theorem dJ5_isLatin1_aae02_13 : decode cJ5_isLatin1_aae02 13 = .ok (.iconst 1, 1) := by decide +kernel
theorem dJ5_isLatin1_aae02_14 : decode cJ5_isLatin1_aae02 14 = .ok (.goto 4, 3) := by decide +kernel
theorem dJ5_isLatin1_aae02_17 : decode cJ5_isLatin1_aae02 17 = .ok (.iconst 0, 1) := by decide +kernel
theorem dJ5_isLatin1_aae02_18 : decode cJ5_isLatin1_aae02 18 = .ok (.ireturn, 1) := by decide +kernel
theorem dJ6_getChars_ba4f3_0 : decode cJ6_getChars_ba4f3 0 = .ok (.iload_n 1, 1) := by decide +kernel
theorem dJ6_getChars_ba4f3_1 : decode cJ6_getChars_ba4f3 1 = .ok (.istore 5, 2) := by decide +kernel
theorem dJ6_getChars_ba4f3_3 : decode cJ6_getChars_ba4f3 3 = .ok (.iload_n 0, 1) := by decide +kernel
theorem dJ6_getChars_ba4f3_4 : decode cJ6_getChars_ba4f3 4 = .ok (.ifCond .ge 7, 3) := by decide +kernel
theorem dJ6_getChars_ba4f3_7 : decode cJ6_getChars_ba4f3 7 = .ok (.iconst 1, 1) := by decide +kernel
theorem dJ6_getChars_ba4f3_8 : decode cJ6_getChars_ba4f3 8 = .ok (.goto 4, 3) := by decide +kernel
theorem dJ6_getChars_ba4f3_11 : decode cJ6_getChars_ba4f3 11 = .ok (.iconst 0, 1) := by decide +kernel
theorem dJ6_getChars_ba4f3_12 : decode cJ6_getChars_ba4f3 12 = .ok (.istore 6, 2) := by decide +kernel
theorem dJ6_getChars_ba4f3_14 : decode cJ6_getChars_ba4f3 14 = .ok (.iload 6, 2) := by decide +kernel
theorem dJ6_getChars_ba4f3_16 : decode cJ6_getChars_ba4f3 16 = .ok (.ifCond .ne 6, 3) := by decide +kernel
theorem dJ6_getChars_ba4f3_19 : decode cJ6_getChars_ba4f3 19 = .ok (.iload_n 0, 1) := by decide +kernel
theorem dJ6_getChars_ba4f3_20 : decode cJ6_getChars_ba4f3 20 = .ok (.ineg, 1) := by decide +kernel
theorem dJ6_getChars_ba4f3_21 : decode cJ6_getChars_ba4f3 21 = .ok (.istore_n 0, 1) := by decide +kernel
theorem dJ6_getChars_ba4f3_22 : decode cJ6_getChars_ba4f3 22 = .ok (.iload_n 0, 1) := by decide +kernel
theorem dJ6_getChars_ba4f3_23 : decode cJ6_getChars_ba4f3 23 = .ok (.bipush (-100), 2) := by decide +kernel
theorem dJ6_getChars_ba4f3_25 : decode cJ6_getChars_ba4f3 25 = .ok (.if_icmp .gt 47, 3) := by decide +kernel
theorem dJ6_getChars_ba4f3_28 : decode cJ6_getChars_ba4f3 28 = .ok (.iload_n 0, 1) := by decide +kernel
theorem dJ6_getChars_ba4f3_29 : decode cJ6_getChars_ba4f3 29 = .ok (.bipush 100, 2) := by decide +kernel
theorem dJ6_getChars_ba4f3_31 : decode cJ6_getChars_ba4f3 31 = .ok (.idiv, 1) := by decide +kernel
theorem dJ6_getChars_ba4f3_32 : decode cJ6_getChars_ba4f3 32 = .ok (.istore_n 3, 1) := by decide +kernel
theorem dJ6_getChars_ba4f3_33 : decode cJ6_getChars_ba4f3 33 = .ok (.iload_n 3, 1) := by decide +kernel
theorem dJ6_getChars_ba4f3_34 : decode cJ6_getChars_ba4f3 34 = .ok (.bipush 100, 2) := by decide +kernel
theorem dJ6_getChars_ba4f3_36 : decode cJ6_getChars_ba4f3 36 = .ok (.imul, 1) := by decide +kernel
theorem dJ6_getChars_ba4f3_37 : decode cJ6_getChars_ba4f3 37 = .ok (.iload_n 0, 1) := by decide +kernel
theorem dJ6_getChars_ba4f3_38 : decode cJ6_getChars_ba4f3 38 = .ok (.isub, 1) := by decide +kernel
theorem dJ6_getChars_ba4f3_39 : decode cJ6_getChars_ba4f3 39 = .ok (.istore 4, 2) := by decide +kernel
theorem dJ6_getChars_ba4f3_41 : decode cJ6_getChars_ba4f3 41 = .ok (.iload_n 3, 1) := by decide +kernel
theorem dJ6_getChars_ba4f3_42 : decode cJ6_getChars_ba4f3 42 = .ok (.istore_n 0, 1) := by decide +kernel
theorem dJ6_getChars_ba4f3_43 : decode cJ6_getChars_ba4f3 43 = .ok (.aload_n 2, 1) := by decide +kernel
theorem dJ6_getChars_ba4f3_44 : decode cJ6_getChars_ba4f3 44 = .ok (.iinc 5 (-1), 3) := by decide +kernel
theorem dJ6_getChars_ba4f3_47 : decode cJ6_getChars_ba4f3 47 = .ok (.iload 5, 2) := by decide +kernel
theorem dJ6_getChars_ba4f3_49 : decode cJ6_getChars_ba4f3 49 = .ok (.getstatic 83, 3) := by decide +kernel
theorem dJ6_getChars_ba4f3_52 : decode cJ6_getChars_ba4f3 52 = .ok (.iload 4, 2) := by decide +kernel
theorem dJ6_getChars_ba4f3_54 : decode cJ6_getChars_ba4f3 54 = .ok (.baload, 1) := by decide +kernel
theorem dJ6_getChars_ba4f3_55 : decode cJ6_getChars_ba4f3 55 = .ok (.bastore, 1) := by decide +kernel
theorem dJ6_getChars_ba4f3_56 : decode cJ6_getChars_ba4f3 56 = .ok (.aload_n 2, 1) := by decide +kernel
theorem dJ6_getChars_ba4f3_57 : decode cJ6_getChars_ba4f3 57 = .ok (.iinc 5 (-1), 3) := by decide +kernel
theorem dJ6_getChars_ba4f3_60 : decode cJ6_getChars_ba4f3 60 = .ok (.iload 5, 2) := by decide +kernel
theorem dJ6_getChars_ba4f3_62 : decode cJ6_getChars_ba4f3 62 = .ok (.getstatic 87, 3) := by decide +kernel
theorem dJ6_getChars_ba4f3_65 : decode cJ6_getChars_ba4f3 65 = .ok (.iload 4, 2) := by decide +kernel
theorem dJ6_getChars_ba4f3_67 : decode cJ6_getChars_ba4f3 67 = .ok (.baload, 1) := by decide +kernel
theorem dJ6_getChars_ba4f3_68 : decode cJ6_getChars_ba4f3 68 = .ok (.bastore, 1) := by decide +kernel
theorem dJ6_getChars_ba4f3_69 : decode cJ6_getChars_ba4f3 69 = .ok (.goto (-47), 3) := by decide +kernel
theorem dJ6_getChars_ba4f3_72 : decode cJ6_getChars_ba4f3 72 = .ok (.aload_n 2, 1) := by decide +kernel
theorem dJ6_getChars_ba4f3_73 : decode cJ6_getChars_ba4f3 73 = .ok (.iinc 5 (-1), 3) := by decide +kernel
theorem dJ6_getChars_ba4f3_76 : decode cJ6_getChars_ba4f3 76 = .ok (.iload 5, 2) := by decide +kernel
theorem dJ6_getChars_ba4f3_78 : decode cJ6_getChars_ba4f3 78 = .ok (.getstatic 83, 3) := by decide +kernel
theorem dJ6_getChars_ba4f3_81 : decode cJ6_getChars_ba4f3 81 = .ok (.iload_n 0, 1) := by decide +kernel
theorem dJ6_getChars_ba4f3_82 : decode cJ6_getChars_ba4f3 82 = .ok (.ineg, 1) := by decide +kernel
theorem dJ6_getChars_ba4f3_83 : decode cJ6_getChars_ba4f3 83 = .ok (.baload, 1) := by decide +kernel
theorem dJ6_getChars_ba4f3_84 : decode cJ6_getChars_ba4f3 84 = .ok (.bastore, 1) := by decide +kernel
theorem dJ6_getChars_ba4f3_85 : decode cJ6_getChars_ba4f3 85 = .ok (.iload_n 0, 1) := by decide +kernel
theorem dJ6_getChars_ba4f3_86 : decode cJ6_getChars_ba4f3 86 = .ok (.bipush (-9), 2) := by decide +kernel
theorem dJ6_getChars_ba4f3_88 : decode cJ6_getChars_ba4f3 88 = .ok (.if_icmp .ge 16, 3) := by decide +kernel
theorem dJ6_getChars_ba4f3_91 : decode cJ6_getChars_ba4f3 91 = .ok (.aload_n 2, 1) := by decide +kernel
theorem dJ6_getChars_ba4f3_92 : decode cJ6_getChars_ba4f3 92 = .ok (.iinc 5 (-1), 3) := by decide +kernel
theorem dJ6_getChars_ba4f3_95 : decode cJ6_getChars_ba4f3 95 = .ok (.iload 5, 2) := by decide +kernel
theorem dJ6_getChars_ba4f3_97 : decode cJ6_getChars_ba4f3 97 = .ok (.getstatic 87, 3) := by decide +kernel
theorem dJ6_getChars_ba4f3_100 : decode cJ6_getChars_ba4f3 100 = .ok (.iload_n 0, 1) := by decide +kernel
theorem dJ6_getChars_ba4f3_101 : decode cJ6_getChars_ba4f3 101 = .ok (.ineg, 1) := by decide +kernel
theorem dJ6_getChars_ba4f3_102 : decode cJ6_getChars_ba4f3 102 = .ok (.baload, 1) := by decide +kernel
theorem dJ6_getChars_ba4f3_103 : decode cJ6_getChars_ba4f3 103 = .ok (.bastore, 1) := by decide +kernel
theorem dJ6_getChars_ba4f3_104 : decode cJ6_getChars_ba4f3 104 = .ok (.iload 6, 2) := by decide +kernel
theorem dJ6_getChars_ba4f3_106 : decode cJ6_getChars_ba4f3 106 = .ok (.ifCond .eq 12, 3) := by decide +kernel
theorem dJ6_getChars_ba4f3_109 : decode cJ6_getChars_ba4f3 109 = .ok (.aload_n 2, 1) := by decide +kernel
theorem dJ6_getChars_ba4f3_110 : decode cJ6_getChars_ba4f3 110 = .ok (.iinc 5 (-1), 3) := by decide +kernel
theorem dJ6_getChars_ba4f3_113 : decode cJ6_getChars_ba4f3 113 = .ok (.iload 5, 2) := by decide +kernel
theorem dJ6_getChars_ba4f3_115 : decode cJ6_getChars_ba4f3 115 = .ok (.bipush 45, 2) := by decide +kernel
theorem dJ6_getChars_ba4f3_117 : decode cJ6_getChars_ba4f3 117 = .ok (.bastore, 1) := by decide +kernel
theorem dJ6_getChars_ba4f3_118 : decode cJ6_getChars_ba4f3 118 = .ok (.iload 5, 2) := by decide +kernel
theorem dJ6_getChars_ba4f3_120 : decode cJ6_getChars_ba4f3 120 = .ok (.ireturn, 1) := by decide +kernel
theorem dJ6_stringSize_0f7a4_0 : decode cJ6_stringSize_0f7a4 0 = .ok (.iconst 1, 1) := by decide +kernel
theorem dJ6_stringSize_0f7a4_1 : decode cJ6_stringSize_0f7a4 1 = .ok (.istore_n 1, 1) := by decide +kernel
theorem dJ6_stringSize_0f7a4_2 : decode cJ6_stringSize_0f7a4 2 = .ok (.iload_n 0, 1) := by decide +kernel
theorem dJ6_stringSize_0f7a4_3 : decode cJ6_stringSize_0f7a4 3 = .ok (.ifCond .lt 8, 3) := by decide +kernel
theorem dJ6_stringSize_0f7a4_6 : decode cJ6_stringSize_0f7a4 6 = .ok (.iconst 0, 1) := by decide +kernel
theorem dJ6_stringSize_0f7a4_7 : decode cJ6_stringSize_0f7a4 7 = .ok (.istore_n 1, 1) := by decide +kernel
theorem dJ6_stringSize_0f7a4_8 : decode cJ6_stringSize_0f7a4 8 = .ok (.iload_n 0, 1) := by decide +kernel
theorem dJ6_stringSize_0f7a4_9 : decode cJ6_stringSize_0f7a4 9 = .ok (.ineg, 1) := by decide +kernel
theorem dJ6_stringSize_0f7a4_10 : decode cJ6_stringSize_0f7a4 10 = .ok (.istore_n 0, 1) := by decide +kernel
theorem dJ6_stringSize_0f7a4_11 : decode cJ6_stringSize_0f7a4 11 = .ok (.bipush (-10), 2) := by decide +kernel
theorem dJ6_stringSize_0f7a4_13 : decode cJ6_stringSize_0f7a4 13 = .ok (.istore_n 2, 1) := by decide +kernel
theorem dJ6_stringSize_0f7a4_14 : decode cJ6_stringSize_0f7a4 14 = .ok (.iconst 1, 1) := by decide +kernel
theorem dJ6_stringSize_0f7a4_15 : decode cJ6_stringSize_0f7a4 15 = .ok (.istore_n 3, 1) := by decide +kernel
theorem dJ6_stringSize_0f7a4_16 : decode cJ6_stringSize_0f7a4 16 = .ok (.iload_n 3, 1) := by decide +kernel
theorem dJ6_stringSize_0f7a4_17 : decode cJ6_stringSize_0f7a4 17 = .ok (.bipush 10, 2) := by decide +kernel
theorem dJ6_stringSize_0f7a4_19 : decode cJ6_stringSize_0f7a4 19 = .ok (.if_icmp .ge 23, 3) := by decide +kernel
theorem dJ6_stringSize_0f7a4_22 : decode cJ6_stringSize_0f7a4 22 = .ok (.iload_n 0, 1) := by decide +kernel
theorem dJ6_stringSize_0f7a4_23 : decode cJ6_stringSize_0f7a4 23 = .ok (.iload_n 2, 1) := by decide +kernel
theorem dJ6_stringSize_0f7a4_24 : decode cJ6_stringSize_0f7a4 24 = .ok (.if_icmp .le 7, 3) := by decide +kernel
theorem dJ6_stringSize_0f7a4_27 : decode cJ6_stringSize_0f7a4 27 = .ok (.iload_n 3, 1) := by decide +kernel
theorem dJ6_stringSize_0f7a4_28 : decode cJ6_stringSize_0f7a4 28 = .ok (.iload_n 1, 1) := by decide +kernel
theorem dJ6_stringSize_0f7a4_29 : decode cJ6_stringSize_0f7a4 29 = .ok (.iadd, 1) := by decide +kernel
theorem dJ6_stringSize_0f7a4_30 : decode cJ6_stringSize_0f7a4 30 = .ok (.ireturn, 1) := by decide +kernel
theorem dJ6_stringSize_0f7a4_31 : decode cJ6_stringSize_0f7a4 31 = .ok (.bipush 10, 2) := by decide +kernel
theorem dJ6_stringSize_0f7a4_33 : decode cJ6_stringSize_0f7a4 33 = .ok (.iload_n 2, 1) := by decide +kernel
theorem dJ6_stringSize_0f7a4_34 : decode cJ6_stringSize_0f7a4 34 = .ok (.imul, 1) := by decide +kernel
theorem dJ6_stringSize_0f7a4_35 : decode cJ6_stringSize_0f7a4 35 = .ok (.istore_n 2, 1) := by decide +kernel
theorem dJ6_stringSize_0f7a4_36 : decode cJ6_stringSize_0f7a4 36 = .ok (.iinc 3 1, 3) := by decide +kernel
theorem dJ6_stringSize_0f7a4_39 : decode cJ6_stringSize_0f7a4 39 = .ok (.goto (-23), 3) := by decide +kernel
theorem dJ6_stringSize_0f7a4_42 : decode cJ6_stringSize_0f7a4 42 = .ok (.bipush 10, 2) := by decide +kernel
theorem dJ6_stringSize_0f7a4_44 : decode cJ6_stringSize_0f7a4 44 = .ok (.iload_n 1, 1) := by decide +kernel
theorem dJ6_stringSize_0f7a4_45 : decode cJ6_stringSize_0f7a4 45 = .ok (.iadd, 1) := by decide +kernel
theorem dJ6_stringSize_0f7a4_46 : decode cJ6_stringSize_0f7a4 46 = .ok (.ireturn, 1) := by decide +kernel
theorem dJ9_floorMod_7cf53_0 : decode cJ9_floorMod_7cf53 0 = .ok (.iload_n 0, 1) := by decide +kernel
theorem dJ9_floorMod_7cf53_1 : decode cJ9_floorMod_7cf53 1 = .ok (.iload_n 1, 1) := by decide +kernel
theorem dJ9_floorMod_7cf53_2 : decode cJ9_floorMod_7cf53 2 = .ok (.irem, 1) := by decide +kernel
theorem dJ9_floorMod_7cf53_3 : decode cJ9_floorMod_7cf53 3 = .ok (.istore_n 2, 1) := by decide +kernel
theorem dJ9_floorMod_7cf53_4 : decode cJ9_floorMod_7cf53 4 = .ok (.iload_n 0, 1) := by decide +kernel
theorem dJ9_floorMod_7cf53_5 : decode cJ9_floorMod_7cf53 5 = .ok (.iload_n 1, 1) := by decide +kernel
theorem dJ9_floorMod_7cf53_6 : decode cJ9_floorMod_7cf53 6 = .ok (.ixor, 1) := by decide +kernel
theorem dJ9_floorMod_7cf53_7 : decode cJ9_floorMod_7cf53 7 = .ok (.ifCond .ge 11, 3) := by decide +kernel
theorem dJ9_floorMod_7cf53_10 : decode cJ9_floorMod_7cf53 10 = .ok (.iload_n 2, 1) := by decide +kernel
theorem dJ9_floorMod_7cf53_11 : decode cJ9_floorMod_7cf53 11 = .ok (.ifCond .eq 7, 3) := by decide +kernel
theorem dJ9_floorMod_7cf53_14 : decode cJ9_floorMod_7cf53 14 = .ok (.iload_n 2, 1) := by decide +kernel
theorem dJ9_floorMod_7cf53_15 : decode cJ9_floorMod_7cf53 15 = .ok (.iload_n 1, 1) := by decide +kernel
theorem dJ9_floorMod_7cf53_16 : decode cJ9_floorMod_7cf53 16 = .ok (.iadd, 1) := by decide +kernel
theorem dJ9_floorMod_7cf53_17 : decode cJ9_floorMod_7cf53 17 = .ok (.ireturn, 1) := by decide +kernel
theorem dJ9_floorMod_7cf53_18 : decode cJ9_floorMod_7cf53 18 = .ok (.iload_n 2, 1) := by decide +kernel
theorem dJ9_floorMod_7cf53_19 : decode cJ9_floorMod_7cf53 19 = .ok (.ireturn, 1) := by decide +kernel
theorem dJ9_max_7cf53_0 : decode cJ9_max_7cf53 0 = .ok (.iload_n 0, 1) := by decide +kernel
theorem dJ9_max_7cf53_1 : decode cJ9_max_7cf53 1 = .ok (.iload_n 1, 1) := by decide +kernel
theorem dJ9_max_7cf53_2 : decode cJ9_max_7cf53 2 = .ok (.if_icmp .lt 7, 3) := by decide +kernel
theorem dJ9_max_7cf53_5 : decode cJ9_max_7cf53 5 = .ok (.iload_n 0, 1) := by decide +kernel
theorem dJ9_max_7cf53_6 : decode cJ9_max_7cf53 6 = .ok (.goto 4, 3) := by decide +kernel
theorem dJ9_max_7cf53_9 : decode cJ9_max_7cf53 9 = .ok (.iload_n 1, 1) := by decide +kernel
theorem dJ9_max_7cf53_10 : decode cJ9_max_7cf53 10 = .ok (.ireturn, 1) := by decide +kernel
theorem dJ9_min_7cf53_0 : decode cJ9_min_7cf53 0 = .ok (.iload_n 0, 1) := by decide +kernel
theorem dJ9_min_7cf53_1 : decode cJ9_min_7cf53 1 = .ok (.iload_n 1, 1) := by decide +kernel
theorem dJ9_min_7cf53_2 : decode cJ9_min_7cf53 2 = .ok (.if_icmp .gt 7, 3) := by decide +kernel
theorem dJ9_min_7cf53_5 : decode cJ9_min_7cf53 5 = .ok (.iload_n 0, 1) := by decide +kernel
theorem dJ9_min_7cf53_6 : decode cJ9_min_7cf53 6 = .ok (.goto 4, 3) := by decide +kernel
theorem dJ9_min_7cf53_9 : decode cJ9_min_7cf53 9 = .ok (.iload_n 1, 1) := by decide +kernel
theorem dJ9_min_7cf53_10 : decode cJ9_min_7cf53 10 = .ok (.ireturn, 1) := by decide +kernel
theorem dJ0_checkIndex_df160_0 : decode cJ0_checkIndex_df160 0 = .ok (.iload_n 0, 1) := by decide +kernel
theorem dJ0_checkIndex_df160_1 : decode cJ0_checkIndex_df160 1 = .ok (.iload_n 1, 1) := by decide +kernel
theorem dJ0_checkIndex_df160_2 : decode cJ0_checkIndex_df160 2 = .ok (.getstatic 1053, 3) := by decide +kernel
theorem dJ0_checkIndex_df160_5 : decode cJ0_checkIndex_df160 5 = .ok (.invokestatic 1059, 3) := by decide +kernel
theorem dJ0_checkIndex_df160_8 : decode cJ0_checkIndex_df160 8 = .ok (.pop, 1) := by decide +kernel
theorem dJ0_checkIndex_df160_9 : decode cJ0_checkIndex_df160 9 = .ok (.return_, 1) := by decide +kernel
theorem dJ0_checkBoundsOffCount_cabcc_0 : decode cJ0_checkBoundsOffCount_cabcc 0 = .ok (.iload_n 0, 1) := by decide +kernel
theorem dJ0_checkBoundsOffCount_cabcc_1 : decode cJ0_checkBoundsOffCount_cabcc 1 = .ok (.iload_n 1, 1) := by decide +kernel
theorem dJ0_checkBoundsOffCount_cabcc_2 : decode cJ0_checkBoundsOffCount_cabcc 2 = .ok (.iload_n 2, 1) := by decide +kernel
theorem dJ0_checkBoundsOffCount_cabcc_3 : decode cJ0_checkBoundsOffCount_cabcc 3 = .ok (.getstatic 1053, 3) := by decide +kernel
theorem dJ0_checkBoundsOffCount_cabcc_6 : decode cJ0_checkBoundsOffCount_cabcc 6 = .ok (.invokestatic 1065, 3) := by decide +kernel
theorem dJ0_checkBoundsOffCount_cabcc_9 : decode cJ0_checkBoundsOffCount_cabcc 9 = .ok (.ireturn, 1) := by decide +kernel
theorem dJ0_checkBoundsBeginEnd_23922_0 : decode cJ0_checkBoundsBeginEnd_23922 0 = .ok (.iload_n 0, 1) := by decide +kernel
theorem dJ0_checkBoundsBeginEnd_23922_1 : decode cJ0_checkBoundsBeginEnd_23922 1 = .ok (.iload_n 1, 1) := by decide +kernel
theorem dJ0_checkBoundsBeginEnd_23922_2 : decode cJ0_checkBoundsBeginEnd_23922 2 = .ok (.iload_n 2, 1) := by decide +kernel
theorem dJ0_checkBoundsBeginEnd_23922_3 : decode cJ0_checkBoundsBeginEnd_23922 3 = .ok (.getstatic 1053, 3) := by decide +kernel
theorem dJ0_checkBoundsBeginEnd_23922_6 : decode cJ0_checkBoundsBeginEnd_23922 6 = .ok (.invokestatic 1062, 3) := by decide +kernel
theorem dJ0_checkBoundsBeginEnd_23922_9 : decode cJ0_checkBoundsBeginEnd_23922 9 = .ok (.pop, 1) := by decide +kernel
theorem dJ0_checkBoundsBeginEnd_23922_10 : decode cJ0_checkBoundsBeginEnd_23922 10 = .ok (.return_, 1) := by decide +kernel
theorem dJ4_init_da8c8_0 : decode cJ4_init_da8c8 0 = .ok (.aload_n 0, 1) := by decide +kernel
theorem dJ4_init_da8c8_1 : decode cJ4_init_da8c8 1 = .ok (.bipush 16, 2) := by decide +kernel
theorem dJ4_init_da8c8_3 : decode cJ4_init_da8c8 3 = .ok (.invokespecial 1, 3) := by decide +kernel
theorem dJ4_init_da8c8_6 : decode cJ4_init_da8c8 6 = .ok (.return_, 1) := by decide +kernel
theorem dJ4_append_cf468_0 : decode cJ4_append_cf468 0 = .ok (.aload_n 0, 1) := by decide +kernel
theorem dJ4_append_cf468_1 : decode cJ4_append_cf468 1 = .ok (.iload_n 1, 1) := by decide +kernel
theorem dJ4_append_cf468_2 : decode cJ4_append_cf468 2 = .ok (.invokespecial 50, 3) := by decide +kernel
theorem dJ4_append_cf468_5 : decode cJ4_append_cf468 5 = .ok (.pop, 1) := by decide +kernel
theorem dJ4_append_cf468_6 : decode cJ4_append_cf468 6 = .ok (.aload_n 0, 1) := by decide +kernel
theorem dJ4_append_cf468_7 : decode cJ4_append_cf468 7 = .ok (.areturn, 1) := by decide +kernel
theorem dJ4_append_bf812_0 : decode cJ4_append_bf812 0 = .ok (.aload_n 0, 1) := by decide +kernel
theorem dJ4_append_bf812_1 : decode cJ4_append_bf812 1 = .ok (.iload_n 1, 1) := by decide +kernel
theorem dJ4_append_bf812_2 : decode cJ4_append_bf812 2 = .ok (.invokespecial 53, 3) := by decide +kernel
theorem dJ4_append_bf812_5 : decode cJ4_append_bf812 5 = .ok (.pop, 1) := by decide +kernel
theorem dJ4_append_bf812_6 : decode cJ4_append_bf812 6 = .ok (.aload_n 0, 1) := by decide +kernel
theorem dJ4_append_bf812_7 : decode cJ4_append_bf812 7 = .ok (.areturn, 1) := by decide +kernel
theorem dJ4_charAt_5068e_0 : decode cJ4_charAt_5068e 0 = .ok (.aload_n 0, 1) := by decide +kernel
theorem dJ4_charAt_5068e_1 : decode cJ4_charAt_5068e 1 = .ok (.iload_n 1, 1) := by decide +kernel
theorem dJ4_charAt_5068e_2 : decode cJ4_charAt_5068e 2 = .ok (.invokespecial 329, 3) := by decide +kernel
theorem dJ4_charAt_5068e_5 : decode cJ4_charAt_5068e 5 = .ok (.ireturn, 1) := by decide +kernel
theorem dJ4_setLength_d00df_0 : decode cJ4_setLength_d00df 0 = .ok (.aload_n 0, 1) := by decide +kernel
theorem dJ4_setLength_d00df_1 : decode cJ4_setLength_d00df 1 = .ok (.iload_n 1, 1) := by decide +kernel
theorem dJ4_setLength_d00df_2 : decode cJ4_setLength_d00df 2 = .ok (.invokespecial 333, 3) := by decide +kernel
theorem dJ4_setLength_d00df_5 : decode cJ4_setLength_d00df 5 = .ok (.return_, 1) := by decide +kernel
theorem dJ4_length_8abf5_0 : decode cJ4_length_8abf5 0 = .ok (.aload_n 0, 1) := by decide +kernel
theorem dJ4_length_8abf5_1 : decode cJ4_length_8abf5 1 = .ok (.invokespecial 343, 3) := by decide +kernel
theorem dJ4_length_8abf5_4 : decode cJ4_length_8abf5 4 = .ok (.ireturn, 1) := by decide +kernel
theorem dJ1_canEncode_fc78d_0 : decode cJ1_canEncode_fc78d 0 = .ok (.iload_n 0, 1) := by decide +kernel
theorem dJ1_canEncode_fc78d_1 : decode cJ1_canEncode_fc78d 1 = .ok (.sipush 255, 3) := by decide +kernel
theorem dJ1_canEncode_fc78d_4 : decode cJ1_canEncode_fc78d 4 = .ok (.if_icmp .gt 7, 3) := by decide +kernel
theorem dJ1_canEncode_fc78d_7 : decode cJ1_canEncode_fc78d 7 = .ok (.iconst 1, 1) := by decide +kernel
theorem dJ1_canEncode_fc78d_8 : decode cJ1_canEncode_fc78d 8 = .ok (.goto 4, 3) := by decide +kernel
theorem dJ1_canEncode_fc78d_11 : decode cJ1_canEncode_fc78d 11 = .ok (.iconst 0, 1) := by decide +kernel
theorem dJ1_canEncode_fc78d_12 : decode cJ1_canEncode_fc78d 12 = .ok (.ireturn, 1) := by decide +kernel
theorem dJ1_fillNull_b72d1_0 : decode cJ1_fillNull_b72d1 0 = .ok (.aload_n 0, 1) := by decide +kernel
theorem dJ1_fillNull_b72d1_1 : decode cJ1_fillNull_b72d1 1 = .ok (.iload_n 1, 1) := by decide +kernel
theorem dJ1_fillNull_b72d1_2 : decode cJ1_fillNull_b72d1 2 = .ok (.iload_n 2, 1) := by decide +kernel
theorem dJ1_fillNull_b72d1_3 : decode cJ1_fillNull_b72d1 3 = .ok (.iconst 0, 1) := by decide +kernel
theorem dJ1_fillNull_b72d1_4 : decode cJ1_fillNull_b72d1 4 = .ok (.invokestatic 236, 3) := by decide +kernel
theorem dJ1_fillNull_b72d1_7 : decode cJ1_fillNull_b72d1 7 = .ok (.return_, 1) := by decide +kernel
theorem dJ1_inflate_0e8fd_0 : decode cJ1_inflate_0e8fd 0 = .ok (.aload_n 0, 1) := by decide +kernel
theorem dJ1_inflate_0e8fd_1 : decode cJ1_inflate_0e8fd 1 = .ok (.iload_n 1, 1) := by decide +kernel
theorem dJ1_inflate_0e8fd_2 : decode cJ1_inflate_0e8fd 2 = .ok (.aload_n 2, 1) := by decide +kernel
theorem dJ1_inflate_0e8fd_3 : decode cJ1_inflate_0e8fd 3 = .ok (.iload_n 3, 1) := by decide +kernel
theorem dJ1_inflate_0e8fd_4 : decode cJ1_inflate_0e8fd 4 = .ok (.iload 4, 2) := by decide +kernel
theorem dJ1_inflate_0e8fd_6 : decode cJ1_inflate_0e8fd 6 = .ok (.invokestatic 240, 3) := by decide +kernel
theorem dJ1_inflate_0e8fd_9 : decode cJ1_inflate_0e8fd 9 = .ok (.return_, 1) := by decide +kernel
theorem dJ2_newBytesFor_77867_0 : decode cJ2_newBytesFor_77867 0 = .ok (.iload_n 0, 1) := by decide +kernel
theorem dJ2_newBytesFor_77867_1 : decode cJ2_newBytesFor_77867 1 = .ok (.invokestatic 11, 3) := by decide +kernel
theorem dJ2_newBytesFor_77867_4 : decode cJ2_newBytesFor_77867 4 = .ok (.newarray .byte, 2) := by decide +kernel
theorem dJ2_newBytesFor_77867_6 : decode cJ2_newBytesFor_77867 6 = .ok (.areturn, 1) := by decide +kernel
theorem dJ2_newBytesLength_0f7a4_0 : decode cJ2_newBytesLength_0f7a4 0 = .ok (.iload_n 0, 1) := by decide +kernel
theorem dJ2_newBytesLength_0f7a4_1 : decode cJ2_newBytesLength_0f7a4 1 = .ok (.ifCond .ge 11, 3) := by decide +kernel
theorem dJ2_newBytesLength_0f7a4_4 : decode cJ2_newBytesLength_0f7a4 4 = .ok (.new 17, 3) := by decide +kernel
theorem dJ2_newBytesLength_0f7a4_7 : decode cJ2_newBytesLength_0f7a4 7 = .ok (.dup, 1) := by decide +kernel
theorem dJ2_newBytesLength_0f7a4_8 : decode cJ2_newBytesLength_0f7a4 8 = .ok (.invokespecial 19, 3) := by decide +kernel
theorem dJ2_newBytesLength_0f7a4_11 : decode cJ2_newBytesLength_0f7a4 11 = .ok (.athrow, 1) := by decide +kernel
theorem dJ2_newBytesLength_0f7a4_12 : decode cJ2_newBytesLength_0f7a4 12 = .ok (.iload_n 0, 1) := by decide +kernel
theorem dJ2_newBytesLength_0f7a4_13 : decode cJ2_newBytesLength_0f7a4 13 = .ok (.ldc 20, 2) := by decide +kernel
theorem dJ2_newBytesLength_0f7a4_15 : decode cJ2_newBytesLength_0f7a4 15 = .ok (.if_icmp .lt 40, 3) := by decide +kernel
theorem dJ2_newBytesLength_0f7a4_18 : decode cJ2_newBytesLength_0f7a4 18 = .ok (.new 21, 3) := by decide +kernel
theorem dJ2_newBytesLength_0f7a4_21 : decode cJ2_newBytesLength_0f7a4 21 = .ok (.dup, 1) := by decide +kernel
theorem dJ2_newBytesLength_0f7a4_22 : decode cJ2_newBytesLength_0f7a4 22 = .ok (.new 23, 3) := by decide +kernel
theorem dJ2_newBytesLength_0f7a4_25 : decode cJ2_newBytesLength_0f7a4 25 = .ok (.dup, 1) := by decide +kernel
theorem dJ2_newBytesLength_0f7a4_26 : decode cJ2_newBytesLength_0f7a4 26 = .ok (.invokespecial 25, 3) := by decide +kernel
theorem dJ2_newBytesLength_0f7a4_29 : decode cJ2_newBytesLength_0f7a4 29 = .ok (.ldc 26, 2) := by decide +kernel
theorem dJ2_newBytesLength_0f7a4_31 : decode cJ2_newBytesLength_0f7a4 31 = .ok (.invokevirtual 28, 3) := by decide +kernel
theorem dJ2_newBytesLength_0f7a4_34 : decode cJ2_newBytesLength_0f7a4 34 = .ok (.iload_n 0, 1) := by decide +kernel
theorem dJ2_newBytesLength_0f7a4_35 : decode cJ2_newBytesLength_0f7a4 35 = .ok (.invokevirtual 32, 3) := by decide +kernel
theorem dJ2_newBytesLength_0f7a4_38 : decode cJ2_newBytesLength_0f7a4 38 = .ok (.ldc 35, 2) := by decide +kernel
theorem dJ2_newBytesLength_0f7a4_40 : decode cJ2_newBytesLength_0f7a4 40 = .ok (.invokevirtual 28, 3) := by decide +kernel
theorem dJ2_newBytesLength_0f7a4_43 : decode cJ2_newBytesLength_0f7a4 43 = .ok (.ldc 20, 2) := by decide +kernel
theorem dJ2_newBytesLength_0f7a4_45 : decode cJ2_newBytesLength_0f7a4 45 = .ok (.invokevirtual 32, 3) := by decide +kernel
theorem dJ2_newBytesLength_0f7a4_48 : decode cJ2_newBytesLength_0f7a4 48 = .ok (.invokevirtual 37, 3) := by decide +kernel
theorem dJ2_newBytesLength_0f7a4_51 : decode cJ2_newBytesLength_0f7a4 51 = .ok (.invokespecial 41, 3) := by decide +kernel
theorem dJ2_newBytesLength_0f7a4_54 : decode cJ2_newBytesLength_0f7a4 54 = .ok (.athrow, 1) := by decide +kernel
theorem dJ2_newBytesLength_0f7a4_55 : decode cJ2_newBytesLength_0f7a4 55 = .ok (.iload_n 0, 1) := by decide +kernel
theorem dJ2_newBytesLength_0f7a4_56 : decode cJ2_newBytesLength_0f7a4 56 = .ok (.iconst 1, 1) := by decide +kernel
theorem dJ2_newBytesLength_0f7a4_57 : decode cJ2_newBytesLength_0f7a4 57 = .ok (.ishl, 1) := by decide +kernel
theorem dJ2_newBytesLength_0f7a4_58 : decode cJ2_newBytesLength_0f7a4 58 = .ok (.ireturn, 1) := by decide +kernel
theorem dJ2_putChar_b72d1_0 : decode cJ2_putChar_b72d1 0 = .ok (.getstatic 44, 3) := by decide +kernel
theorem dJ2_putChar_b72d1_3 : decode cJ2_putChar_b72d1 3 = .ok (.ifCond .ne 25, 3) := by decide +kernel
theorem dJ2_putChar_b72d1_6 : decode cJ2_putChar_b72d1 6 = .ok (.iload_n 1, 1) := by decide +kernel
theorem dJ2_putChar_b72d1_7 : decode cJ2_putChar_b72d1 7 = .ok (.ifCond .lt 11, 3) := by decide +kernel
theorem dJ2_putChar_b72d1_10 : decode cJ2_putChar_b72d1 10 = .ok (.iload_n 1, 1) := by decide +kernel
theorem dJ2_putChar_b72d1_11 : decode cJ2_putChar_b72d1 11 = .ok (.aload_n 0, 1) := by decide +kernel
theorem dJ2_putChar_b72d1_12 : decode cJ2_putChar_b72d1 12 = .ok (.invokestatic 48, 3) := by decide +kernel
theorem dJ2_putChar_b72d1_15 : decode cJ2_putChar_b72d1 15 = .ok (.if_icmp .lt 13, 3) := by decide +kernel
theorem dJ2_putChar_b72d1_18 : decode cJ2_putChar_b72d1 18 = .ok (.new 52, 3) := by decide +kernel
theorem dJ2_putChar_b72d1_21 : decode cJ2_putChar_b72d1 21 = .ok (.dup, 1) := by decide +kernel
theorem dJ2_putChar_b72d1_22 : decode cJ2_putChar_b72d1 22 = .ok (.ldc 54, 2) := by decide +kernel
theorem dJ2_putChar_b72d1_24 : decode cJ2_putChar_b72d1 24 = .ok (.invokespecial 56, 3) := by decide +kernel
theorem dJ2_putChar_b72d1_27 : decode cJ2_putChar_b72d1 27 = .ok (.athrow, 1) := by decide +kernel
theorem dJ2_putChar_b72d1_28 : decode cJ2_putChar_b72d1 28 = .ok (.iload_n 1, 1) := by decide +kernel
theorem dJ2_putChar_b72d1_29 : decode cJ2_putChar_b72d1 29 = .ok (.iconst 1, 1) := by decide +kernel
theorem dJ2_putChar_b72d1_30 : decode cJ2_putChar_b72d1 30 = .ok (.ishl, 1) := by decide +kernel
theorem dJ2_putChar_b72d1_31 : decode cJ2_putChar_b72d1 31 = .ok (.istore_n 1, 1) := by decide +kernel
theorem dJ2_putChar_b72d1_32 : decode cJ2_putChar_b72d1 32 = .ok (.aload_n 0, 1) := by decide +kernel
theorem dJ2_putChar_b72d1_33 : decode cJ2_putChar_b72d1 33 = .ok (.iload_n 1, 1) := by decide +kernel
theorem dJ2_putChar_b72d1_34 : decode cJ2_putChar_b72d1 34 = .ok (.iinc 1 1, 3) := by decide +kernel
theorem dJ2_putChar_b72d1_37 : decode cJ2_putChar_b72d1 37 = .ok (.iload_n 2, 1) := by decide +kernel
theorem dJ2_putChar_b72d1_38 : decode cJ2_putChar_b72d1 38 = .ok (.getstatic 59, 3) := by decide +kernel
theorem dJ2_putChar_b72d1_41 : decode cJ2_putChar_b72d1 41 = .ok (.ishr, 1) := by decide +kernel
theorem dJ2_putChar_b72d1_42 : decode cJ2_putChar_b72d1 42 = .ok (.i2b, 1) := by decide +kernel
theorem dJ2_putChar_b72d1_43 : decode cJ2_putChar_b72d1 43 = .ok (.bastore, 1) := by decide +kernel
theorem dJ2_putChar_b72d1_44 : decode cJ2_putChar_b72d1 44 = .ok (.aload_n 0, 1) := by decide +kernel
theorem dJ2_putChar_b72d1_45 : decode cJ2_putChar_b72d1 45 = .ok (.iload_n 1, 1) := by decide +kernel
theorem dJ2_putChar_b72d1_46 : decode cJ2_putChar_b72d1 46 = .ok (.iload_n 2, 1) := by decide +kernel
theorem dJ2_putChar_b72d1_47 : decode cJ2_putChar_b72d1 47 = .ok (.getstatic 63, 3) := by decide +kernel
theorem dJ2_putChar_b72d1_50 : decode cJ2_putChar_b72d1 50 = .ok (.ishr, 1) := by decide +kernel
theorem dJ2_putChar_b72d1_51 : decode cJ2_putChar_b72d1 51 = .ok (.i2b, 1) := by decide +kernel
theorem dJ2_putChar_b72d1_52 : decode cJ2_putChar_b72d1 52 = .ok (.bastore, 1) := by decide +kernel
theorem dJ2_putChar_b72d1_53 : decode cJ2_putChar_b72d1 53 = .ok (.return_, 1) := by decide +kernel
theorem dJ2_getChar_3b067_0 : decode cJ2_getChar_3b067 0 = .ok (.getstatic 44, 3) := by decide +kernel
theorem dJ2_getChar_3b067_3 : decode cJ2_getChar_3b067 3 = .ok (.ifCond .ne 25, 3) := by decide +kernel
theorem dJ2_getChar_3b067_6 : decode cJ2_getChar_3b067 6 = .ok (.iload_n 1, 1) := by decide +kernel
theorem dJ2_getChar_3b067_7 : decode cJ2_getChar_3b067 7 = .ok (.ifCond .lt 11, 3) := by decide +kernel
theorem dJ2_getChar_3b067_10 : decode cJ2_getChar_3b067 10 = .ok (.iload_n 1, 1) := by decide +kernel
theorem dJ2_getChar_3b067_11 : decode cJ2_getChar_3b067 11 = .ok (.aload_n 0, 1) := by decide +kernel
theorem dJ2_getChar_3b067_12 : decode cJ2_getChar_3b067 12 = .ok (.invokestatic 48, 3) := by decide +kernel
theorem dJ2_getChar_3b067_15 : decode cJ2_getChar_3b067 15 = .ok (.if_icmp .lt 13, 3) := by decide +kernel
theorem dJ2_getChar_3b067_18 : decode cJ2_getChar_3b067 18 = .ok (.new 52, 3) := by decide +kernel
theorem dJ2_getChar_3b067_21 : decode cJ2_getChar_3b067 21 = .ok (.dup, 1) := by decide +kernel
theorem dJ2_getChar_3b067_22 : decode cJ2_getChar_3b067 22 = .ok (.ldc 54, 2) := by decide +kernel
theorem dJ2_getChar_3b067_24 : decode cJ2_getChar_3b067 24 = .ok (.invokespecial 56, 3) := by decide +kernel
theorem dJ2_getChar_3b067_27 : decode cJ2_getChar_3b067 27 = .ok (.athrow, 1) := by decide +kernel
theorem dJ2_getChar_3b067_28 : decode cJ2_getChar_3b067 28 = .ok (.iload_n 1, 1) := by decide +kernel
theorem dJ2_getChar_3b067_29 : decode cJ2_getChar_3b067 29 = .ok (.iconst 1, 1) := by decide +kernel
end
section
theorem dJ2_getChar_3b067_30 : decode cJ2_getChar_3b067 30 = .ok (.ishl, 1) := by decide +kernel
theorem dJ2_getChar_3b067_31 : decode cJ2_getChar_3b067 31 = .ok (.istore_n 1, 1) := by decide +kernel
theorem dJ2_getChar_3b067_32 : decode cJ2_getChar_3b067 32 = .ok (.aload_n 0, 1) := by decide +kernel
theorem dJ2_getChar_3b067_33 : decode cJ2_getChar_3b067 33 = .ok (.iload_n 1, 1) := by decide +kernel
theorem dJ2_getChar_3b067_34 : decode cJ2_getChar_3b067 34 = .ok (.iinc 1 1, 3) := by decide +kernel
theorem dJ2_getChar_3b067_37 : decode cJ2_getChar_3b067 37 = .ok (.baload, 1) := by decide +kernel
theorem dJ2_getChar_3b067_38 : decode cJ2_getChar_3b067 38 = .ok (.sipush 255, 3) := by decide +kernel
theorem dJ2_getChar_3b067_41 : decode cJ2_getChar_3b067 41 = .ok (.iand, 1) := by decide +kernel
theorem dJ2_getChar_3b067_42 : decode cJ2_getChar_3b067 42 = .ok (.getstatic 59, 3) := by decide +kernel
theorem dJ2_getChar_3b067_45 : decode cJ2_getChar_3b067 45 = .ok (.ishl, 1) := by decide +kernel
theorem dJ2_getChar_3b067_46 : decode cJ2_getChar_3b067 46 = .ok (.aload_n 0, 1) := by decide +kernel
theorem dJ2_getChar_3b067_47 : decode cJ2_getChar_3b067 47 = .ok (.iload_n 1, 1) := by decide +kernel
theorem dJ2_getChar_3b067_48 : decode cJ2_getChar_3b067 48 = .ok (.baload, 1) := by decide +kernel
theorem dJ2_getChar_3b067_49 : decode cJ2_getChar_3b067 49 = .ok (.sipush 255, 3) := by decide +kernel
theorem dJ2_getChar_3b067_52 : decode cJ2_getChar_3b067 52 = .ok (.iand, 1) := by decide +kernel
theorem dJ2_getChar_3b067_53 : decode cJ2_getChar_3b067 53 = .ok (.getstatic 63, 3) := by decide +kernel
theorem dJ2_getChar_3b067_56 : decode cJ2_getChar_3b067 56 = .ok (.ishl, 1) := by decide +kernel
theorem dJ2_getChar_3b067_57 : decode cJ2_getChar_3b067 57 = .ok (.ior, 1) := by decide +kernel
theorem dJ2_getChar_3b067_58 : decode cJ2_getChar_3b067 58 = .ok (.i2c, 1) := by decide +kernel
theorem dJ2_getChar_3b067_59 : decode cJ2_getChar_3b067 59 = .ok (.ireturn, 1) := by decide +kernel
theorem dJ2_length_9d52b_0 : decode cJ2_length_9d52b 0 = .ok (.aload_n 0, 1) := by decide +kernel
theorem dJ2_length_9d52b_1 : decode cJ2_length_9d52b 1 = .ok (.arraylength, 1) := by decide +kernel
theorem dJ2_length_9d52b_2 : decode cJ2_length_9d52b 2 = .ok (.iconst 1, 1) := by decide +kernel
theorem dJ2_length_9d52b_3 : decode cJ2_length_9d52b 3 = .ok (.ishr, 1) := by decide +kernel
theorem dJ2_length_9d52b_4 : decode cJ2_length_9d52b 4 = .ok (.ireturn, 1) := by decide +kernel
theorem dJ2_fillNull_b72d1_0 : decode cJ2_fillNull_b72d1 0 = .ok (.aload_n 0, 1) := by decide +kernel
theorem dJ2_fillNull_b72d1_1 : decode cJ2_fillNull_b72d1 1 = .ok (.iload_n 1, 1) := by decide +kernel
theorem dJ2_fillNull_b72d1_2 : decode cJ2_fillNull_b72d1 2 = .ok (.iconst 1, 1) := by decide +kernel
theorem dJ2_fillNull_b72d1_3 : decode cJ2_fillNull_b72d1 3 = .ok (.ishl, 1) := by decide +kernel
theorem dJ2_fillNull_b72d1_4 : decode cJ2_fillNull_b72d1 4 = .ok (.iload_n 2, 1) := by decide +kernel
theorem dJ2_fillNull_b72d1_5 : decode cJ2_fillNull_b72d1 5 = .ok (.iconst 1, 1) := by decide +kernel
theorem dJ2_fillNull_b72d1_6 : decode cJ2_fillNull_b72d1 6 = .ok (.ishl, 1) := by decide +kernel
theorem dJ2_fillNull_b72d1_7 : decode cJ2_fillNull_b72d1 7 = .ok (.iconst 0, 1) := by decide +kernel
theorem dJ2_fillNull_b72d1_8 : decode cJ2_fillNull_b72d1 8 = .ok (.invokestatic 380, 3) := by decide +kernel
theorem dJ2_fillNull_b72d1_11 : decode cJ2_fillNull_b72d1 11 = .ok (.return_, 1) := by decide +kernel
theorem dJ2_putCharSB_b72d1_0 : decode cJ2_putCharSB_b72d1 0 = .ok (.iload_n 1, 1) := by decide +kernel
theorem dJ2_putCharSB_b72d1_1 : decode cJ2_putCharSB_b72d1 1 = .ok (.aload_n 0, 1) := by decide +kernel
theorem dJ2_putCharSB_b72d1_2 : decode cJ2_putCharSB_b72d1 2 = .ok (.invokestatic 67, 3) := by decide +kernel
theorem dJ2_putCharSB_b72d1_5 : decode cJ2_putCharSB_b72d1 5 = .ok (.aload_n 0, 1) := by decide +kernel
theorem dJ2_putCharSB_b72d1_6 : decode cJ2_putCharSB_b72d1 6 = .ok (.iload_n 1, 1) := by decide +kernel
theorem dJ2_putCharSB_b72d1_7 : decode cJ2_putCharSB_b72d1 7 = .ok (.iload_n 2, 1) := by decide +kernel
theorem dJ2_putCharSB_b72d1_8 : decode cJ2_putCharSB_b72d1 8 = .ok (.invokestatic 111, 3) := by decide +kernel
theorem dJ2_putCharSB_b72d1_11 : decode cJ2_putCharSB_b72d1 11 = .ok (.return_, 1) := by decide +kernel
theorem dJ2_getChars_46870_0 : decode cJ2_getChars_46870 0 = .ok (.iload_n 1, 1) := by decide +kernel
theorem dJ2_getChars_46870_1 : decode cJ2_getChars_46870 1 = .ok (.iload_n 2, 1) := by decide +kernel
theorem dJ2_getChars_46870_2 : decode cJ2_getChars_46870 2 = .ok (.aload_n 3, 1) := by decide +kernel
theorem dJ2_getChars_46870_3 : decode cJ2_getChars_46870 3 = .ok (.invokestatic 96, 3) := by decide +kernel
theorem dJ2_getChars_46870_6 : decode cJ2_getChars_46870 6 = .ok (.iload_n 0, 1) := by decide +kernel
theorem dJ2_getChars_46870_7 : decode cJ2_getChars_46870 7 = .ok (.iload_n 2, 1) := by decide +kernel
theorem dJ2_getChars_46870_8 : decode cJ2_getChars_46870 8 = .ok (.aload_n 3, 1) := by decide +kernel
theorem dJ2_getChars_46870_9 : decode cJ2_getChars_46870 9 = .ok (.invokestatic 393, 3) := by decide +kernel
theorem dJ2_getChars_46870_12 : decode cJ2_getChars_46870 12 = .ok (.istore 4, 2) := by decide +kernel
theorem dJ2_getChars_46870_14 : decode cJ2_getChars_46870 14 = .ok (.getstatic 44, 3) := by decide +kernel
theorem dJ2_getChars_46870_17 : decode cJ2_getChars_46870 17 = .ok (.ifCond .ne 17, 3) := by decide +kernel
theorem dJ2_getChars_46870_20 : decode cJ2_getChars_46870 20 = .ok (.iload_n 1, 1) := by decide +kernel
theorem dJ2_getChars_46870_21 : decode cJ2_getChars_46870 21 = .ok (.iload 4, 2) := by decide +kernel
theorem dJ2_getChars_46870_23 : decode cJ2_getChars_46870 23 = .ok (.if_icmp .eq 11, 3) := by decide +kernel
theorem dJ2_getChars_46870_26 : decode cJ2_getChars_46870 26 = .ok (.new 52, 3) := by decide +kernel
theorem dJ2_getChars_46870_29 : decode cJ2_getChars_46870 29 = .ok (.dup, 1) := by decide +kernel
theorem dJ2_getChars_46870_30 : decode cJ2_getChars_46870 30 = .ok (.invokespecial 66, 3) := by decide +kernel
theorem dJ2_getChars_46870_33 : decode cJ2_getChars_46870 33 = .ok (.athrow, 1) := by decide +kernel
theorem dJ2_getChars_46870_34 : decode cJ2_getChars_46870 34 = .ok (.iload 4, 2) := by decide +kernel
theorem dJ2_getChars_46870_36 : decode cJ2_getChars_46870 36 = .ok (.ireturn, 1) := by decide +kernel
theorem dJ2_inflate_0e8fd_0 : decode cJ2_inflate_0e8fd 0 = .ok (.iload_n 3, 1) := by decide +kernel
theorem dJ2_inflate_0e8fd_1 : decode cJ2_inflate_0e8fd 1 = .ok (.iload 4, 2) := by decide +kernel
theorem dJ2_inflate_0e8fd_3 : decode cJ2_inflate_0e8fd 3 = .ok (.aload_n 2, 1) := by decide +kernel
theorem dJ2_inflate_0e8fd_4 : decode cJ2_inflate_0e8fd 4 = .ok (.invokestatic 173, 3) := by decide +kernel
theorem dJ2_inflate_0e8fd_7 : decode cJ2_inflate_0e8fd 7 = .ok (.iconst 0, 1) := by decide +kernel
theorem dJ2_inflate_0e8fd_8 : decode cJ2_inflate_0e8fd 8 = .ok (.istore 5, 2) := by decide +kernel
theorem dJ2_inflate_0e8fd_10 : decode cJ2_inflate_0e8fd 10 = .ok (.iload 5, 2) := by decide +kernel
theorem dJ2_inflate_0e8fd_12 : decode cJ2_inflate_0e8fd 12 = .ok (.iload 4, 2) := by decide +kernel
theorem dJ2_inflate_0e8fd_14 : decode cJ2_inflate_0e8fd 14 = .ok (.if_icmp .ge 27, 3) := by decide +kernel
theorem dJ2_inflate_0e8fd_17 : decode cJ2_inflate_0e8fd 17 = .ok (.aload_n 2, 1) := by decide +kernel
theorem dJ2_inflate_0e8fd_18 : decode cJ2_inflate_0e8fd 18 = .ok (.iload_n 3, 1) := by decide +kernel
theorem dJ2_inflate_0e8fd_19 : decode cJ2_inflate_0e8fd 19 = .ok (.iinc 3 1, 3) := by decide +kernel
theorem dJ2_inflate_0e8fd_22 : decode cJ2_inflate_0e8fd 22 = .ok (.aload_n 0, 1) := by decide +kernel
theorem dJ2_inflate_0e8fd_23 : decode cJ2_inflate_0e8fd 23 = .ok (.iload_n 1, 1) := by decide +kernel
theorem dJ2_inflate_0e8fd_24 : decode cJ2_inflate_0e8fd 24 = .ok (.iinc 1 1, 3) := by decide +kernel
theorem dJ2_inflate_0e8fd_27 : decode cJ2_inflate_0e8fd 27 = .ok (.baload, 1) := by decide +kernel
theorem dJ2_inflate_0e8fd_28 : decode cJ2_inflate_0e8fd 28 = .ok (.sipush 255, 3) := by decide +kernel
theorem dJ2_inflate_0e8fd_31 : decode cJ2_inflate_0e8fd 31 = .ok (.iand, 1) := by decide +kernel
theorem dJ2_inflate_0e8fd_32 : decode cJ2_inflate_0e8fd 32 = .ok (.invokestatic 111, 3) := by decide +kernel
theorem dJ2_inflate_0e8fd_35 : decode cJ2_inflate_0e8fd 35 = .ok (.iinc 5 1, 3) := by decide +kernel
theorem dJ2_inflate_0e8fd_38 : decode cJ2_inflate_0e8fd 38 = .ok (.goto (-28), 3) := by decide +kernel
theorem dJ2_inflate_0e8fd_41 : decode cJ2_inflate_0e8fd 41 = .ok (.return_, 1) := by decide +kernel
theorem dJ2_getChars_ba4f3_0 : decode cJ2_getChars_ba4f3 0 = .ok (.iload_n 1, 1) := by decide +kernel
theorem dJ2_getChars_ba4f3_1 : decode cJ2_getChars_ba4f3 1 = .ok (.istore 5, 2) := by decide +kernel
theorem dJ2_getChars_ba4f3_3 : decode cJ2_getChars_ba4f3 3 = .ok (.iload_n 0, 1) := by decide +kernel
theorem dJ2_getChars_ba4f3_4 : decode cJ2_getChars_ba4f3 4 = .ok (.ifCond .ge 7, 3) := by decide +kernel
theorem dJ2_getChars_ba4f3_7 : decode cJ2_getChars_ba4f3 7 = .ok (.iconst 1, 1) := by decide +kernel
theorem dJ2_getChars_ba4f3_8 : decode cJ2_getChars_ba4f3 8 = .ok (.goto 4, 3) := by decide +kernel
theorem dJ2_getChars_ba4f3_11 : decode cJ2_getChars_ba4f3 11 = .ok (.iconst 0, 1) := by decide +kernel
theorem dJ2_getChars_ba4f3_12 : decode cJ2_getChars_ba4f3 12 = .ok (.istore 6, 2) := by decide +kernel
theorem dJ2_getChars_ba4f3_14 : decode cJ2_getChars_ba4f3 14 = .ok (.iload 6, 2) := by decide +kernel
theorem dJ2_getChars_ba4f3_16 : decode cJ2_getChars_ba4f3 16 = .ok (.ifCond .ne 6, 3) := by decide +kernel
theorem dJ2_getChars_ba4f3_19 : decode cJ2_getChars_ba4f3 19 = .ok (.iload_n 0, 1) := by decide +kernel
theorem dJ2_getChars_ba4f3_20 : decode cJ2_getChars_ba4f3 20 = .ok (.ineg, 1) := by decide +kernel
theorem dJ2_getChars_ba4f3_21 : decode cJ2_getChars_ba4f3 21 = .ok (.istore_n 0, 1) := by decide +kernel
theorem dJ2_getChars_ba4f3_22 : decode cJ2_getChars_ba4f3 22 = .ok (.iload_n 0, 1) := by decide +kernel
theorem dJ2_getChars_ba4f3_23 : decode cJ2_getChars_ba4f3 23 = .ok (.bipush (-100), 2) := by decide +kernel
theorem dJ2_getChars_ba4f3_25 : decode cJ2_getChars_ba4f3 25 = .ok (.if_icmp .gt 51, 3) := by decide +kernel
theorem dJ2_getChars_ba4f3_28 : decode cJ2_getChars_ba4f3 28 = .ok (.iload_n 0, 1) := by decide +kernel
theorem dJ2_getChars_ba4f3_29 : decode cJ2_getChars_ba4f3 29 = .ok (.bipush 100, 2) := by decide +kernel
theorem dJ2_getChars_ba4f3_31 : decode cJ2_getChars_ba4f3 31 = .ok (.idiv, 1) := by decide +kernel
theorem dJ2_getChars_ba4f3_32 : decode cJ2_getChars_ba4f3 32 = .ok (.istore_n 3, 1) := by decide +kernel
theorem dJ2_getChars_ba4f3_33 : decode cJ2_getChars_ba4f3 33 = .ok (.iload_n 3, 1) := by decide +kernel
theorem dJ2_getChars_ba4f3_34 : decode cJ2_getChars_ba4f3 34 = .ok (.bipush 100, 2) := by decide +kernel
theorem dJ2_getChars_ba4f3_36 : decode cJ2_getChars_ba4f3 36 = .ok (.imul, 1) := by decide +kernel
theorem dJ2_getChars_ba4f3_37 : decode cJ2_getChars_ba4f3 37 = .ok (.iload_n 0, 1) := by decide +kernel
theorem dJ2_getChars_ba4f3_38 : decode cJ2_getChars_ba4f3 38 = .ok (.isub, 1) := by decide +kernel
theorem dJ2_getChars_ba4f3_39 : decode cJ2_getChars_ba4f3 39 = .ok (.istore 4, 2) := by decide +kernel
theorem dJ2_getChars_ba4f3_41 : decode cJ2_getChars_ba4f3 41 = .ok (.iload_n 3, 1) := by decide +kernel
theorem dJ2_getChars_ba4f3_42 : decode cJ2_getChars_ba4f3 42 = .ok (.istore_n 0, 1) := by decide +kernel
theorem dJ2_getChars_ba4f3_43 : decode cJ2_getChars_ba4f3 43 = .ok (.aload_n 2, 1) := by decide +kernel
theorem dJ2_getChars_ba4f3_44 : decode cJ2_getChars_ba4f3 44 = .ok (.iinc 5 (-1), 3) := by decide +kernel
theorem dJ2_getChars_ba4f3_47 : decode cJ2_getChars_ba4f3 47 = .ok (.iload 5, 2) := by decide +kernel
theorem dJ2_getChars_ba4f3_49 : decode cJ2_getChars_ba4f3 49 = .ok (.getstatic 403, 3) := by decide +kernel
theorem dJ2_getChars_ba4f3_52 : decode cJ2_getChars_ba4f3 52 = .ok (.iload 4, 2) := by decide +kernel
theorem dJ2_getChars_ba4f3_54 : decode cJ2_getChars_ba4f3 54 = .ok (.baload, 1) := by decide +kernel
theorem dJ2_getChars_ba4f3_55 : decode cJ2_getChars_ba4f3 55 = .ok (.invokestatic 111, 3) := by decide +kernel
theorem dJ2_getChars_ba4f3_58 : decode cJ2_getChars_ba4f3 58 = .ok (.aload_n 2, 1) := by decide +kernel
theorem dJ2_getChars_ba4f3_59 : decode cJ2_getChars_ba4f3 59 = .ok (.iinc 5 (-1), 3) := by decide +kernel
theorem dJ2_getChars_ba4f3_62 : decode cJ2_getChars_ba4f3 62 = .ok (.iload 5, 2) := by decide +kernel
theorem dJ2_getChars_ba4f3_64 : decode cJ2_getChars_ba4f3 64 = .ok (.getstatic 407, 3) := by decide +kernel
theorem dJ2_getChars_ba4f3_67 : decode cJ2_getChars_ba4f3 67 = .ok (.iload 4, 2) := by decide +kernel
theorem dJ2_getChars_ba4f3_69 : decode cJ2_getChars_ba4f3 69 = .ok (.baload, 1) := by decide +kernel
theorem dJ2_getChars_ba4f3_70 : decode cJ2_getChars_ba4f3 70 = .ok (.invokestatic 111, 3) := by decide +kernel
theorem dJ2_getChars_ba4f3_73 : decode cJ2_getChars_ba4f3 73 = .ok (.goto (-51), 3) := by decide +kernel
theorem dJ2_getChars_ba4f3_76 : decode cJ2_getChars_ba4f3 76 = .ok (.aload_n 2, 1) := by decide +kernel
theorem dJ2_getChars_ba4f3_77 : decode cJ2_getChars_ba4f3 77 = .ok (.iinc 5 (-1), 3) := by decide +kernel
theorem dJ2_getChars_ba4f3_80 : decode cJ2_getChars_ba4f3 80 = .ok (.iload 5, 2) := by decide +kernel
theorem dJ2_getChars_ba4f3_82 : decode cJ2_getChars_ba4f3 82 = .ok (.getstatic 403, 3) := by decide +kernel
theorem dJ2_getChars_ba4f3_85 : decode cJ2_getChars_ba4f3 85 = .ok (.iload_n 0, 1) := by decide +kernel
theorem dJ2_getChars_ba4f3_86 : decode cJ2_getChars_ba4f3 86 = .ok (.ineg, 1) := by decide +kernel
theorem dJ2_getChars_ba4f3_87 : decode cJ2_getChars_ba4f3 87 = .ok (.baload, 1) := by decide +kernel
theorem dJ2_getChars_ba4f3_88 : decode cJ2_getChars_ba4f3 88 = .ok (.invokestatic 111, 3) := by decide +kernel
theorem dJ2_getChars_ba4f3_91 : decode cJ2_getChars_ba4f3 91 = .ok (.iload_n 0, 1) := by decide +kernel
theorem dJ2_getChars_ba4f3_92 : decode cJ2_getChars_ba4f3 92 = .ok (.bipush (-9), 2) := by decide +kernel
theorem dJ2_getChars_ba4f3_94 : decode cJ2_getChars_ba4f3 94 = .ok (.if_icmp .ge 18, 3) := by decide +kernel
theorem dJ2_getChars_ba4f3_97 : decode cJ2_getChars_ba4f3 97 = .ok (.aload_n 2, 1) := by decide +kernel
theorem dJ2_getChars_ba4f3_98 : decode cJ2_getChars_ba4f3 98 = .ok (.iinc 5 (-1), 3) := by decide +kernel
theorem dJ2_getChars_ba4f3_101 : decode cJ2_getChars_ba4f3 101 = .ok (.iload 5, 2) := by decide +kernel
theorem dJ2_getChars_ba4f3_103 : decode cJ2_getChars_ba4f3 103 = .ok (.getstatic 407, 3) := by decide +kernel
theorem dJ2_getChars_ba4f3_106 : decode cJ2_getChars_ba4f3 106 = .ok (.iload_n 0, 1) := by decide +kernel
theorem dJ2_getChars_ba4f3_107 : decode cJ2_getChars_ba4f3 107 = .ok (.ineg, 1) := by decide +kernel
theorem dJ2_getChars_ba4f3_108 : decode cJ2_getChars_ba4f3 108 = .ok (.baload, 1) := by decide +kernel
theorem dJ2_getChars_ba4f3_109 : decode cJ2_getChars_ba4f3 109 = .ok (.invokestatic 111, 3) := by decide +kernel
theorem dJ2_getChars_ba4f3_112 : decode cJ2_getChars_ba4f3 112 = .ok (.iload 6, 2) := by decide +kernel
theorem dJ2_getChars_ba4f3_114 : decode cJ2_getChars_ba4f3 114 = .ok (.ifCond .eq 14, 3) := by decide +kernel
theorem dJ2_getChars_ba4f3_117 : decode cJ2_getChars_ba4f3 117 = .ok (.aload_n 2, 1) := by decide +kernel
theorem dJ2_getChars_ba4f3_118 : decode cJ2_getChars_ba4f3 118 = .ok (.iinc 5 (-1), 3) := by decide +kernel
theorem dJ2_getChars_ba4f3_121 : decode cJ2_getChars_ba4f3 121 = .ok (.iload 5, 2) := by decide +kernel
theorem dJ2_getChars_ba4f3_123 : decode cJ2_getChars_ba4f3 123 = .ok (.bipush 45, 2) := by decide +kernel
theorem dJ2_getChars_ba4f3_125 : decode cJ2_getChars_ba4f3 125 = .ok (.invokestatic 111, 3) := by decide +kernel
theorem dJ2_getChars_ba4f3_128 : decode cJ2_getChars_ba4f3 128 = .ok (.iload 5, 2) := by decide +kernel
theorem dJ2_getChars_ba4f3_130 : decode cJ2_getChars_ba4f3 130 = .ok (.ireturn, 1) := by decide +kernel
theorem dJ2_checkIndex_2214a_0 : decode cJ2_checkIndex_2214a 0 = .ok (.iload_n 0, 1) := by decide +kernel
theorem dJ2_checkIndex_2214a_1 : decode cJ2_checkIndex_2214a 1 = .ok (.aload_n 1, 1) := by decide +kernel
theorem dJ2_checkIndex_2214a_2 : decode cJ2_checkIndex_2214a 2 = .ok (.invokestatic 48, 3) := by decide +kernel
theorem dJ2_checkIndex_2214a_5 : decode cJ2_checkIndex_2214a 5 = .ok (.invokestatic 414, 3) := by decide +kernel
theorem dJ2_checkIndex_2214a_8 : decode cJ2_checkIndex_2214a 8 = .ok (.return_, 1) := by decide +kernel
theorem dJ2_checkBoundsBeginEnd_d044e_0 : decode cJ2_checkBoundsBeginEnd_d044e 0 = .ok (.iload_n 0, 1) := by decide +kernel
theorem dJ2_checkBoundsBeginEnd_d044e_1 : decode cJ2_checkBoundsBeginEnd_d044e 1 = .ok (.iload_n 1, 1) := by decide +kernel
theorem dJ2_checkBoundsBeginEnd_d044e_2 : decode cJ2_checkBoundsBeginEnd_d044e 2 = .ok (.aload_n 2, 1) := by decide +kernel
theorem dJ2_checkBoundsBeginEnd_d044e_3 : decode cJ2_checkBoundsBeginEnd_d044e 3 = .ok (.invokestatic 48, 3) := by decide +kernel
theorem dJ2_checkBoundsBeginEnd_d044e_6 : decode cJ2_checkBoundsBeginEnd_d044e 6 = .ok (.invokestatic 241, 3) := by decide +kernel
theorem dJ2_checkBoundsBeginEnd_d044e_9 : decode cJ2_checkBoundsBeginEnd_d044e 9 = .ok (.return_, 1) := by decide +kernel
theorem dJ2_checkBoundsOffCount_d044e_0 : decode cJ2_checkBoundsOffCount_d044e 0 = .ok (.iload_n 0, 1) := by decide +kernel
theorem dJ2_checkBoundsOffCount_d044e_1 : decode cJ2_checkBoundsOffCount_d044e 1 = .ok (.iload_n 1, 1) := by decide +kernel
theorem dJ2_checkBoundsOffCount_d044e_2 : decode cJ2_checkBoundsOffCount_d044e 2 = .ok (.aload_n 2, 1) := by decide +kernel
theorem dJ2_checkBoundsOffCount_d044e_3 : decode cJ2_checkBoundsOffCount_d044e 3 = .ok (.invokestatic 48, 3) := by decide +kernel
theorem dJ2_checkBoundsOffCount_d044e_6 : decode cJ2_checkBoundsOffCount_d044e 6 = .ok (.invokestatic 419, 3) := by decide +kernel
theorem dJ2_checkBoundsOffCount_d044e_9 : decode cJ2_checkBoundsOffCount_d044e 9 = .ok (.pop, 1) := by decide +kernel
theorem dJ2_checkBoundsOffCount_d044e_10 : decode cJ2_checkBoundsOffCount_d044e 10 = .ok (.return_, 1) := by decide +kernel
theorem dJ7_rangeCheck_23922_0 : decode cJ7_rangeCheck_23922 0 = .ok (.iload_n 1, 1) := by decide +kernel
theorem dJ7_rangeCheck_23922_1 : decode cJ7_rangeCheck_23922 1 = .ok (.iload_n 2, 1) := by decide +kernel
theorem dJ7_rangeCheck_23922_2 : decode cJ7_rangeCheck_23922 2 = .ok (.if_icmp .le 44, 3) := by decide +kernel
theorem dJ7_rangeCheck_23922_5 : decode cJ7_rangeCheck_23922 5 = .ok (.new 43, 3) := by decide +kernel
theorem dJ7_rangeCheck_23922_8 : decode cJ7_rangeCheck_23922 8 = .ok (.dup, 1) := by decide +kernel
theorem dJ7_rangeCheck_23922_9 : decode cJ7_rangeCheck_23922 9 = .ok (.new 45, 3) := by decide +kernel
theorem dJ7_rangeCheck_23922_12 : decode cJ7_rangeCheck_23922 12 = .ok (.dup, 1) := by decide +kernel
theorem dJ7_rangeCheck_23922_13 : decode cJ7_rangeCheck_23922 13 = .ok (.invokespecial 47, 3) := by decide +kernel
theorem dJ7_rangeCheck_23922_16 : decode cJ7_rangeCheck_23922 16 = .ok (.ldc 48, 2) := by decide +kernel
theorem dJ7_rangeCheck_23922_18 : decode cJ7_rangeCheck_23922 18 = .ok (.invokevirtual 50, 3) := by decide +kernel
theorem dJ7_rangeCheck_23922_21 : decode cJ7_rangeCheck_23922 21 = .ok (.iload_n 1, 1) := by decide +kernel
theorem dJ7_rangeCheck_23922_22 : decode cJ7_rangeCheck_23922 22 = .ok (.invokevirtual 54, 3) := by decide +kernel
theorem dJ7_rangeCheck_23922_25 : decode cJ7_rangeCheck_23922 25 = .ok (.ldc 57, 2) := by decide +kernel
theorem dJ7_rangeCheck_23922_27 : decode cJ7_rangeCheck_23922 27 = .ok (.invokevirtual 50, 3) := by decide +kernel
theorem dJ7_rangeCheck_23922_30 : decode cJ7_rangeCheck_23922 30 = .ok (.iload_n 2, 1) := by decide +kernel
theorem dJ7_rangeCheck_23922_31 : decode cJ7_rangeCheck_23922 31 = .ok (.invokevirtual 54, 3) := by decide +kernel
theorem dJ7_rangeCheck_23922_34 : decode cJ7_rangeCheck_23922 34 = .ok (.ldc 59, 2) := by decide +kernel
theorem dJ7_rangeCheck_23922_36 : decode cJ7_rangeCheck_23922 36 = .ok (.invokevirtual 50, 3) := by decide +kernel
theorem dJ7_rangeCheck_23922_39 : decode cJ7_rangeCheck_23922 39 = .ok (.invokevirtual 61, 3) := by decide +kernel
theorem dJ7_rangeCheck_23922_42 : decode cJ7_rangeCheck_23922 42 = .ok (.invokespecial 65, 3) := by decide +kernel
theorem dJ7_rangeCheck_23922_45 : decode cJ7_rangeCheck_23922 45 = .ok (.athrow, 1) := by decide +kernel
theorem dJ7_rangeCheck_23922_46 : decode cJ7_rangeCheck_23922 46 = .ok (.iload_n 1, 1) := by decide +kernel
theorem dJ7_rangeCheck_23922_47 : decode cJ7_rangeCheck_23922 47 = .ok (.ifCond .ge 12, 3) := by decide +kernel
theorem dJ7_rangeCheck_23922_50 : decode cJ7_rangeCheck_23922 50 = .ok (.new 68, 3) := by decide +kernel
theorem dJ7_rangeCheck_23922_53 : decode cJ7_rangeCheck_23922 53 = .ok (.dup, 1) := by decide +kernel
theorem dJ7_rangeCheck_23922_54 : decode cJ7_rangeCheck_23922 54 = .ok (.iload_n 1, 1) := by decide +kernel
theorem dJ7_rangeCheck_23922_55 : decode cJ7_rangeCheck_23922 55 = .ok (.invokespecial 70, 3) := by decide +kernel
theorem dJ7_rangeCheck_23922_58 : decode cJ7_rangeCheck_23922 58 = .ok (.athrow, 1) := by decide +kernel
theorem dJ7_rangeCheck_23922_59 : decode cJ7_rangeCheck_23922 59 = .ok (.iload_n 2, 1) := by decide +kernel
theorem dJ7_rangeCheck_23922_60 : decode cJ7_rangeCheck_23922 60 = .ok (.iload_n 0, 1) := by decide +kernel
theorem dJ7_rangeCheck_23922_61 : decode cJ7_rangeCheck_23922 61 = .ok (.if_icmp .le 12, 3) := by decide +kernel
theorem dJ7_rangeCheck_23922_64 : decode cJ7_rangeCheck_23922 64 = .ok (.new 68, 3) := by decide +kernel
theorem dJ7_rangeCheck_23922_67 : decode cJ7_rangeCheck_23922 67 = .ok (.dup, 1) := by decide +kernel
theorem dJ7_rangeCheck_23922_68 : decode cJ7_rangeCheck_23922 68 = .ok (.iload_n 2, 1) := by decide +kernel
theorem dJ7_rangeCheck_23922_69 : decode cJ7_rangeCheck_23922 69 = .ok (.invokespecial 70, 3) := by decide +kernel
theorem dJ7_rangeCheck_23922_72 : decode cJ7_rangeCheck_23922 72 = .ok (.athrow, 1) := by decide +kernel
theorem dJ7_rangeCheck_23922_73 : decode cJ7_rangeCheck_23922 73 = .ok (.return_, 1) := by decide +kernel
theorem dJ7_fill_53178_0 : decode cJ7_fill_53178 0 = .ok (.iconst 0, 1) := by decide +kernel
theorem dJ7_fill_53178_1 : decode cJ7_fill_53178 1 = .ok (.istore_n 2, 1) := by decide +kernel
theorem dJ7_fill_53178_2 : decode cJ7_fill_53178 2 = .ok (.aload_n 0, 1) := by decide +kernel
theorem dJ7_fill_53178_3 : decode cJ7_fill_53178 3 = .ok (.arraylength, 1) := by decide +kernel
theorem dJ7_fill_53178_4 : decode cJ7_fill_53178 4 = .ok (.istore_n 3, 1) := by decide +kernel
theorem dJ7_fill_53178_5 : decode cJ7_fill_53178 5 = .ok (.iload_n 2, 1) := by decide +kernel
theorem dJ7_fill_53178_6 : decode cJ7_fill_53178 6 = .ok (.iload_n 3, 1) := by decide +kernel
theorem dJ7_fill_53178_7 : decode cJ7_fill_53178 7 = .ok (.if_icmp .ge 13, 3) := by decide +kernel
theorem dJ7_fill_53178_10 : decode cJ7_fill_53178 10 = .ok (.aload_n 0, 1) := by decide +kernel
theorem dJ7_fill_53178_11 : decode cJ7_fill_53178 11 = .ok (.iload_n 2, 1) := by decide +kernel
theorem dJ7_fill_53178_12 : decode cJ7_fill_53178 12 = .ok (.iload_n 1, 1) := by decide +kernel
theorem dJ7_fill_53178_13 : decode cJ7_fill_53178 13 = .ok (.iastore, 1) := by decide +kernel
theorem dJ7_fill_53178_14 : decode cJ7_fill_53178 14 = .ok (.iinc 2 1, 3) := by decide +kernel
theorem dJ7_fill_53178_17 : decode cJ7_fill_53178 17 = .ok (.goto (-12), 3) := by decide +kernel
theorem dJ7_fill_53178_20 : decode cJ7_fill_53178 20 = .ok (.return_, 1) := by decide +kernel
theorem dJ7_fill_eb02e_0 : decode cJ7_fill_eb02e 0 = .ok (.aload_n 0, 1) := by decide +kernel
theorem dJ7_fill_eb02e_1 : decode cJ7_fill_eb02e 1 = .ok (.arraylength, 1) := by decide +kernel
theorem dJ7_fill_eb02e_2 : decode cJ7_fill_eb02e 2 = .ok (.iload_n 1, 1) := by decide +kernel
theorem dJ7_fill_eb02e_3 : decode cJ7_fill_eb02e 3 = .ok (.iload_n 2, 1) := by decide +kernel
theorem dJ7_fill_eb02e_4 : decode cJ7_fill_eb02e 4 = .ok (.invokestatic 13, 3) := by decide +kernel
theorem dJ7_fill_eb02e_7 : decode cJ7_fill_eb02e 7 = .ok (.iload_n 1, 1) := by decide +kernel
theorem dJ7_fill_eb02e_8 : decode cJ7_fill_eb02e 8 = .ok (.istore 4, 2) := by decide +kernel
theorem dJ7_fill_eb02e_10 : decode cJ7_fill_eb02e 10 = .ok (.iload 4, 2) := by decide +kernel
theorem dJ7_fill_eb02e_12 : decode cJ7_fill_eb02e 12 = .ok (.iload_n 2, 1) := by decide +kernel
theorem dJ7_fill_eb02e_13 : decode cJ7_fill_eb02e 13 = .ok (.if_icmp .ge 14, 3) := by decide +kernel
theorem dJ7_fill_eb02e_16 : decode cJ7_fill_eb02e 16 = .ok (.aload_n 0, 1) := by decide +kernel
theorem dJ7_fill_eb02e_17 : decode cJ7_fill_eb02e 17 = .ok (.iload 4, 2) := by decide +kernel
theorem dJ7_fill_eb02e_19 : decode cJ7_fill_eb02e 19 = .ok (.iload_n 3, 1) := by decide +kernel
theorem dJ7_fill_eb02e_20 : decode cJ7_fill_eb02e 20 = .ok (.bastore, 1) := by decide +kernel
theorem dJ7_fill_eb02e_21 : decode cJ7_fill_eb02e 21 = .ok (.iinc 4 1, 3) := by decide +kernel
theorem dJ7_fill_eb02e_24 : decode cJ7_fill_eb02e 24 = .ok (.goto (-14), 3) := by decide +kernel
theorem dJ7_fill_eb02e_27 : decode cJ7_fill_eb02e 27 = .ok (.return_, 1) := by decide +kernel
theorem dJ7_copyOf_9075b_0 : decode cJ7_copyOf_9075b 0 = .ok (.iload_n 1, 1) := by decide +kernel
theorem dJ7_copyOf_9075b_1 : decode cJ7_copyOf_9075b 1 = .ok (.aload_n 0, 1) := by decide +kernel
theorem dJ7_copyOf_9075b_2 : decode cJ7_copyOf_9075b 2 = .ok (.arraylength, 1) := by decide +kernel
theorem dJ7_copyOf_9075b_3 : decode cJ7_copyOf_9075b 3 = .ok (.if_icmp .ne 11, 3) := by decide +kernel
theorem dJ7_copyOf_9075b_6 : decode cJ7_copyOf_9075b 6 = .ok (.aload_n 0, 1) := by decide +kernel
theorem dJ7_copyOf_9075b_7 : decode cJ7_copyOf_9075b 7 = .ok (.invokevirtual 310, 3) := by decide +kernel
theorem dJ7_copyOf_9075b_10 : decode cJ7_copyOf_9075b 10 = .ok (.checkcast 311, 3) := by decide +kernel
theorem dJ7_copyOf_9075b_13 : decode cJ7_copyOf_9075b 13 = .ok (.areturn, 1) := by decide +kernel
theorem dJ7_copyOf_9075b_14 : decode cJ7_copyOf_9075b 14 = .ok (.iload_n 1, 1) := by decide +kernel
theorem dJ7_copyOf_9075b_15 : decode cJ7_copyOf_9075b 15 = .ok (.newarray .byte, 2) := by decide +kernel
theorem dJ7_copyOf_9075b_17 : decode cJ7_copyOf_9075b 17 = .ok (.astore_n 2, 1) := by decide +kernel
theorem dJ7_copyOf_9075b_18 : decode cJ7_copyOf_9075b 18 = .ok (.aload_n 0, 1) := by decide +kernel
theorem dJ7_copyOf_9075b_19 : decode cJ7_copyOf_9075b 19 = .ok (.iconst 0, 1) := by decide +kernel
theorem dJ7_copyOf_9075b_20 : decode cJ7_copyOf_9075b 20 = .ok (.aload_n 2, 1) := by decide +kernel
theorem dJ7_copyOf_9075b_21 : decode cJ7_copyOf_9075b 21 = .ok (.iconst 0, 1) := by decide +kernel
theorem dJ7_copyOf_9075b_22 : decode cJ7_copyOf_9075b 22 = .ok (.aload_n 0, 1) := by decide +kernel
theorem dJ7_copyOf_9075b_23 : decode cJ7_copyOf_9075b 23 = .ok (.arraylength, 1) := by decide +kernel
theorem dJ7_copyOf_9075b_24 : decode cJ7_copyOf_9075b 24 = .ok (.iload_n 1, 1) := by decide +kernel
theorem dJ7_copyOf_9075b_25 : decode cJ7_copyOf_9075b 25 = .ok (.invokestatic 304, 3) := by decide +kernel
theorem dJ7_copyOf_9075b_28 : decode cJ7_copyOf_9075b 28 = .ok (.invokestatic 150, 3) := by decide +kernel
theorem dJ7_copyOf_9075b_31 : decode cJ7_copyOf_9075b 31 = .ok (.aload_n 2, 1) := by decide +kernel
theorem dJ7_copyOf_9075b_32 : decode cJ7_copyOf_9075b 32 = .ok (.areturn, 1) := by decide +kernel
theorem dJ8_newLength_cabcc_0 : decode cJ8_newLength_cabcc 0 = .ok (.iload_n 0, 1) := by decide +kernel
theorem dJ8_newLength_cabcc_1 : decode cJ8_newLength_cabcc 1 = .ok (.iload_n 1, 1) := by decide +kernel
theorem dJ8_newLength_cabcc_2 : decode cJ8_newLength_cabcc 2 = .ok (.iload_n 2, 1) := by decide +kernel
theorem dJ8_newLength_cabcc_3 : decode cJ8_newLength_cabcc 3 = .ok (.invokestatic 194, 3) := by decide +kernel
theorem dJ8_newLength_cabcc_6 : decode cJ8_newLength_cabcc 6 = .ok (.iadd, 1) := by decide +kernel
theorem dJ8_newLength_cabcc_7 : decode cJ8_newLength_cabcc 7 = .ok (.istore_n 3, 1) := by decide +kernel
theorem dJ8_newLength_cabcc_8 : decode cJ8_newLength_cabcc 8 = .ok (.iconst 0, 1) := by decide +kernel
theorem dJ8_newLength_cabcc_9 : decode cJ8_newLength_cabcc 9 = .ok (.iload_n 3, 1) := by decide +kernel
theorem dJ8_newLength_cabcc_10 : decode cJ8_newLength_cabcc 10 = .ok (.if_icmp .ge 11, 3) := by decide +kernel
theorem dJ8_newLength_cabcc_13 : decode cJ8_newLength_cabcc 13 = .ok (.iload_n 3, 1) := by decide +kernel
theorem dJ8_newLength_cabcc_14 : decode cJ8_newLength_cabcc 14 = .ok (.ldc 200, 2) := by decide +kernel
theorem dJ8_newLength_cabcc_16 : decode cJ8_newLength_cabcc 16 = .ok (.if_icmp .gt 5, 3) := by decide +kernel
theorem dJ8_newLength_cabcc_19 : decode cJ8_newLength_cabcc 19 = .ok (.iload_n 3, 1) := by decide +kernel
theorem dJ8_newLength_cabcc_20 : decode cJ8_newLength_cabcc 20 = .ok (.ireturn, 1) := by decide +kernel
theorem dJ8_newLength_cabcc_21 : decode cJ8_newLength_cabcc 21 = .ok (.iload_n 0, 1) := by decide +kernel
theorem dJ8_newLength_cabcc_22 : decode cJ8_newLength_cabcc 22 = .ok (.iload_n 1, 1) := by decide +kernel
theorem dJ8_newLength_cabcc_23 : decode cJ8_newLength_cabcc 23 = .ok (.invokestatic 201, 3) := by decide +kernel
theorem dJ8_newLength_cabcc_26 : decode cJ8_newLength_cabcc 26 = .ok (.ireturn, 1) := by decide +kernel
theorem dJ8_hugeLength_7cf53_0 : decode cJ8_hugeLength_7cf53 0 = .ok (.iload_n 0, 1) := by decide +kernel
theorem dJ8_hugeLength_7cf53_1 : decode cJ8_hugeLength_7cf53 1 = .ok (.iload_n 1, 1) := by decide +kernel
theorem dJ8_hugeLength_7cf53_2 : decode cJ8_hugeLength_7cf53 2 = .ok (.iadd, 1) := by decide +kernel
theorem dJ8_hugeLength_7cf53_3 : decode cJ8_hugeLength_7cf53 3 = .ok (.istore_n 2, 1) := by decide +kernel
theorem dJ8_hugeLength_7cf53_4 : decode cJ8_hugeLength_7cf53 4 = .ok (.iload_n 2, 1) := by decide +kernel
theorem dJ8_hugeLength_7cf53_5 : decode cJ8_hugeLength_7cf53 5 = .ok (.ifCond .ge 44, 3) := by decide +kernel
theorem dJ8_hugeLength_7cf53_8 : decode cJ8_hugeLength_7cf53 8 = .ok (.new 204, 3) := by decide +kernel
theorem dJ8_hugeLength_7cf53_11 : decode cJ8_hugeLength_7cf53 11 = .ok (.dup, 1) := by decide +kernel
theorem dJ8_hugeLength_7cf53_12 : decode cJ8_hugeLength_7cf53 12 = .ok (.new 89, 3) := by decide +kernel
theorem dJ8_hugeLength_7cf53_15 : decode cJ8_hugeLength_7cf53 15 = .ok (.dup, 1) := by decide +kernel
theorem dJ8_hugeLength_7cf53_16 : decode cJ8_hugeLength_7cf53 16 = .ok (.invokespecial 91, 3) := by decide +kernel
theorem dJ8_hugeLength_7cf53_19 : decode cJ8_hugeLength_7cf53 19 = .ok (.ldc 206, 2) := by decide +kernel
theorem dJ8_hugeLength_7cf53_21 : decode cJ8_hugeLength_7cf53 21 = .ok (.invokevirtual 94, 3) := by decide +kernel
theorem dJ8_hugeLength_7cf53_24 : decode cJ8_hugeLength_7cf53 24 = .ok (.iload_n 0, 1) := by decide +kernel
theorem dJ8_hugeLength_7cf53_25 : decode cJ8_hugeLength_7cf53 25 = .ok (.invokevirtual 98, 3) := by decide +kernel
theorem dJ8_hugeLength_7cf53_28 : decode cJ8_hugeLength_7cf53 28 = .ok (.ldc 208, 2) := by decide +kernel
theorem dJ8_hugeLength_7cf53_30 : decode cJ8_hugeLength_7cf53 30 = .ok (.invokevirtual 94, 3) := by decide +kernel
theorem dJ8_hugeLength_7cf53_33 : decode cJ8_hugeLength_7cf53 33 = .ok (.iload_n 1, 1) := by decide +kernel
theorem dJ8_hugeLength_7cf53_34 : decode cJ8_hugeLength_7cf53 34 = .ok (.invokevirtual 98, 3) := by decide +kernel
theorem dJ8_hugeLength_7cf53_37 : decode cJ8_hugeLength_7cf53 37 = .ok (.ldc 210, 2) := by decide +kernel
theorem dJ8_hugeLength_7cf53_39 : decode cJ8_hugeLength_7cf53 39 = .ok (.invokevirtual 94, 3) := by decide +kernel
theorem dJ8_hugeLength_7cf53_42 : decode cJ8_hugeLength_7cf53 42 = .ok (.invokevirtual 101, 3) := by decide +kernel
theorem dJ8_hugeLength_7cf53_45 : decode cJ8_hugeLength_7cf53 45 = .ok (.invokespecial 212, 3) := by decide +kernel
theorem dJ8_hugeLength_7cf53_48 : decode cJ8_hugeLength_7cf53 48 = .ok (.athrow, 1) := by decide +kernel
theorem dJ8_hugeLength_7cf53_49 : decode cJ8_hugeLength_7cf53 49 = .ok (.iload_n 2, 1) := by decide +kernel
theorem dJ8_hugeLength_7cf53_50 : decode cJ8_hugeLength_7cf53 50 = .ok (.ldc 200, 2) := by decide +kernel
theorem dJ8_hugeLength_7cf53_52 : decode cJ8_hugeLength_7cf53 52 = .ok (.if_icmp .gt 6, 3) := by decide +kernel
theorem dJ8_hugeLength_7cf53_55 : decode cJ8_hugeLength_7cf53 55 = .ok (.ldc 200, 2) := by decide +kernel
theorem dJ8_hugeLength_7cf53_57 : decode cJ8_hugeLength_7cf53 57 = .ok (.ireturn, 1) := by decide +kernel
theorem dJ8_hugeLength_7cf53_58 : decode cJ8_hugeLength_7cf53 58 = .ok (.iload_n 2, 1) := by decide +kernel
theorem dJ8_hugeLength_7cf53_59 : decode cJ8_hugeLength_7cf53 59 = .ok (.ireturn, 1) := by decide +kernel
theorem dJ3_checkIndex_8e157_0 : decode cJ3_checkIndex_8e157 0 = .ok (.iload_n 0, 1) := by decide +kernel
theorem dJ3_checkIndex_8e157_1 : decode cJ3_checkIndex_8e157 1 = .ok (.ifCond .lt 8, 3) := by decide +kernel
theorem dJ3_checkIndex_8e157_4 : decode cJ3_checkIndex_8e157 4 = .ok (.iload_n 0, 1) := by decide +kernel
theorem dJ3_checkIndex_8e157_5 : decode cJ3_checkIndex_8e157 5 = .ok (.iload_n 1, 1) := by decide +kernel
theorem dJ3_checkIndex_8e157_6 : decode cJ3_checkIndex_8e157 6 = .ok (.if_icmp .lt 10, 3) := by decide +kernel
theorem dJ3_checkIndex_8e157_9 : decode cJ3_checkIndex_8e157 9 = .ok (.aload_n 2, 1) := by decide +kernel
theorem dJ3_checkIndex_8e157_10 : decode cJ3_checkIndex_8e157 10 = .ok (.iload_n 0, 1) := by decide +kernel
theorem dJ3_checkIndex_8e157_11 : decode cJ3_checkIndex_8e157 11 = .ok (.iload_n 1, 1) := by decide +kernel
theorem dJ3_checkIndex_8e157_12 : decode cJ3_checkIndex_8e157 12 = .ok (.invokestatic 95, 3) := by decide +kernel
theorem dJ3_checkIndex_8e157_15 : decode cJ3_checkIndex_8e157 15 = .ok (.athrow, 1) := by decide +kernel
theorem dJ3_checkIndex_8e157_16 : decode cJ3_checkIndex_8e157 16 = .ok (.iload_n 0, 1) := by decide +kernel
theorem dJ3_checkIndex_8e157_17 : decode cJ3_checkIndex_8e157 17 = .ok (.ireturn, 1) := by decide +kernel
theorem dJ3_checkFromToIndex_8c36e_0 : decode cJ3_checkFromToIndex_8c36e 0 = .ok (.iload_n 0, 1) := by decide +kernel
theorem dJ3_checkFromToIndex_8c36e_1 : decode cJ3_checkFromToIndex_8c36e 1 = .ok (.ifCond .lt 13, 3) := by decide +kernel
theorem dJ3_checkFromToIndex_8c36e_4 : decode cJ3_checkFromToIndex_8c36e 4 = .ok (.iload_n 0, 1) := by decide +kernel
theorem dJ3_checkFromToIndex_8c36e_5 : decode cJ3_checkFromToIndex_8c36e 5 = .ok (.iload_n 1, 1) := by decide +kernel
theorem dJ3_checkFromToIndex_8c36e_6 : decode cJ3_checkFromToIndex_8c36e 6 = .ok (.if_icmp .gt 8, 3) := by decide +kernel
theorem dJ3_checkFromToIndex_8c36e_9 : decode cJ3_checkFromToIndex_8c36e 9 = .ok (.iload_n 1, 1) := by decide +kernel
theorem dJ3_checkFromToIndex_8c36e_10 : decode cJ3_checkFromToIndex_8c36e 10 = .ok (.iload_n 2, 1) := by decide +kernel
theorem dJ3_checkFromToIndex_8c36e_11 : decode cJ3_checkFromToIndex_8c36e 11 = .ok (.if_icmp .le 11, 3) := by decide +kernel
theorem dJ3_checkFromToIndex_8c36e_14 : decode cJ3_checkFromToIndex_8c36e 14 = .ok (.aload_n 3, 1) := by decide +kernel
theorem dJ3_checkFromToIndex_8c36e_15 : decode cJ3_checkFromToIndex_8c36e 15 = .ok (.iload_n 0, 1) := by decide +kernel
theorem dJ3_checkFromToIndex_8c36e_16 : decode cJ3_checkFromToIndex_8c36e 16 = .ok (.iload_n 1, 1) := by decide +kernel
theorem dJ3_checkFromToIndex_8c36e_17 : decode cJ3_checkFromToIndex_8c36e 17 = .ok (.iload_n 2, 1) := by decide +kernel
theorem dJ3_checkFromToIndex_8c36e_18 : decode cJ3_checkFromToIndex_8c36e 18 = .ok (.invokestatic 99, 3) := by decide +kernel
theorem dJ3_checkFromToIndex_8c36e_21 : decode cJ3_checkFromToIndex_8c36e 21 = .ok (.athrow, 1) := by decide +kernel
theorem dJ3_checkFromToIndex_8c36e_22 : decode cJ3_checkFromToIndex_8c36e 22 = .ok (.iload_n 0, 1) := by decide +kernel
theorem dJ3_checkFromToIndex_8c36e_23 : decode cJ3_checkFromToIndex_8c36e 23 = .ok (.ireturn, 1) := by decide +kernel
theorem dJ3_checkFromIndexSize_8c36e_0 : decode cJ3_checkFromIndexSize_8c36e 0 = .ok (.iload_n 2, 1) := by decide +kernel
theorem dJ3_checkFromIndexSize_8c36e_1 : decode cJ3_checkFromIndexSize_8c36e 1 = .ok (.iload_n 0, 1) := by decide +kernel
theorem dJ3_checkFromIndexSize_8c36e_2 : decode cJ3_checkFromIndexSize_8c36e 2 = .ok (.ior, 1) := by decide +kernel
theorem dJ3_checkFromIndexSize_8c36e_3 : decode cJ3_checkFromIndexSize_8c36e 3 = .ok (.iload_n 1, 1) := by decide +kernel
theorem dJ3_checkFromIndexSize_8c36e_4 : decode cJ3_checkFromIndexSize_8c36e 4 = .ok (.ior, 1) := by decide +kernel
theorem dJ3_checkFromIndexSize_8c36e_5 : decode cJ3_checkFromIndexSize_8c36e 5 = .ok (.ifCond .lt 10, 3) := by decide +kernel
theorem dJ3_checkFromIndexSize_8c36e_8 : decode cJ3_checkFromIndexSize_8c36e 8 = .ok (.iload_n 1, 1) := by decide +kernel
theorem dJ3_checkFromIndexSize_8c36e_9 : decode cJ3_checkFromIndexSize_8c36e 9 = .ok (.iload_n 2, 1) := by decide +kernel
theorem dJ3_checkFromIndexSize_8c36e_10 : decode cJ3_checkFromIndexSize_8c36e 10 = .ok (.iload_n 0, 1) := by decide +kernel
theorem dJ3_checkFromIndexSize_8c36e_11 : decode cJ3_checkFromIndexSize_8c36e 11 = .ok (.isub, 1) := by decide +kernel
theorem dJ3_checkFromIndexSize_8c36e_12 : decode cJ3_checkFromIndexSize_8c36e 12 = .ok (.if_icmp .le 11, 3) := by decide +kernel
theorem dJ3_checkFromIndexSize_8c36e_15 : decode cJ3_checkFromIndexSize_8c36e 15 = .ok (.aload_n 3, 1) := by decide +kernel
theorem dJ3_checkFromIndexSize_8c36e_16 : decode cJ3_checkFromIndexSize_8c36e 16 = .ok (.iload_n 0, 1) := by decide +kernel
theorem dJ3_checkFromIndexSize_8c36e_17 : decode cJ3_checkFromIndexSize_8c36e 17 = .ok (.iload_n 1, 1) := by decide +kernel
theorem dJ3_checkFromIndexSize_8c36e_18 : decode cJ3_checkFromIndexSize_8c36e 18 = .ok (.iload_n 2, 1) := by decide +kernel
theorem dJ3_checkFromIndexSize_8c36e_19 : decode cJ3_checkFromIndexSize_8c36e 19 = .ok (.invokestatic 103, 3) := by decide +kernel
theorem dJ3_checkFromIndexSize_8c36e_22 : decode cJ3_checkFromIndexSize_8c36e 22 = .ok (.athrow, 1) := by decide +kernel
theorem dJ3_checkFromIndexSize_8c36e_23 : decode cJ3_checkFromIndexSize_8c36e 23 = .ok (.iload_n 0, 1) := by decide +kernel
theorem dJ3_checkFromIndexSize_8c36e_24 : decode cJ3_checkFromIndexSize_8c36e 24 = .ok (.ireturn, 1) := by decide +kernel
theorem dL_law_0 : decode cL_law 0 = .ok (.new 7, 3) := by decide +kernel
theorem dL_law_3 : decode cL_law 3 = .ok (.dup, 1) := by decide +kernel
theorem dL_law_4 : decode cL_law 4 = .ok (.invokespecial 9, 3) := by decide +kernel
theorem dL_law_7 : decode cL_law 7 = .ok (.astore_n 1, 1) := by decide +kernel
theorem dL_law_8 : decode cL_law 8 = .ok (.new 10, 3) := by decide +kernel
theorem dL_law_11 : decode cL_law 11 = .ok (.dup, 1) := by decide +kernel
theorem dL_law_12 : decode cL_law 12 = .ok (.invokespecial 12, 3) := by decide +kernel
theorem dL_law_15 : decode cL_law 15 = .ok (.astore_n 2, 1) := by decide +kernel
theorem dL_law_16 : decode cL_law 16 = .ok (.iconst 0, 1) := by decide +kernel
theorem dL_law_17 : decode cL_law 17 = .ok (.istore_n 3, 1) := by decide +kernel
theorem dL_law_18 : decode cL_law 18 = .ok (.iload_n 3, 1) := by decide +kernel
theorem dL_law_19 : decode cL_law 19 = .ok (.aload_n 0, 1) := by decide +kernel
theorem dL_law_20 : decode cL_law 20 = .ok (.arraylength, 1) := by decide +kernel
theorem dL_law_21 : decode cL_law 21 = .ok (.iconst 5, 1) := by decide +kernel
theorem dL_law_22 : decode cL_law 22 = .ok (.isub, 1) := by decide +kernel
theorem dL_law_23 : decode cL_law 23 = .ok (.if_icmp .gt 1514, 3) := by decide +kernel
theorem dL_law_26 : decode cL_law 26 = .ok (.aload_n 0, 1) := by decide +kernel
theorem dL_law_27 : decode cL_law 27 = .ok (.iload_n 3, 1) := by decide +kernel
theorem dL_law_28 : decode cL_law 28 = .ok (.iaload, 1) := by decide +kernel
theorem dL_law_29 : decode cL_law 29 = .ok (.bipush 63, 2) := by decide +kernel
theorem dL_law_31 : decode cL_law 31 = .ok (.iand, 1) := by decide +kernel
theorem dL_law_32 : decode cL_law 32 = .ok (.tableswitch 1499 0 48 #[212, 235, 248, 281, 304, 317, 340, 363, 376, 409, 442, 495, 538, 591, 604, 627, 650, 683, 716, 749, 772, 805, 858, 881, 894, 907, 930, 943, 986, 1019, 1032, 1055, 1068, 1091, 1124, 1157, 1180, 1193, 1206, 1239, 1262, 1295, 1338, 1371, 1394, 1417, 1440, 1473, 1486], 212) := by decide +kernel
theorem dL_law_244 : decode cL_law 244 = .ok (.aload_n 1, 1) := by decide +kernel
theorem dL_law_245 : decode cL_law 245 = .ok (.aload_n 0, 1) := by decide +kernel
theorem dL_law_246 : decode cL_law 246 = .ok (.iload_n 3, 1) := by decide +kernel
theorem dL_law_247 : decode cL_law 247 = .ok (.iconst 1, 1) := by decide +kernel
theorem dL_law_248 : decode cL_law 248 = .ok (.iadd, 1) := by decide +kernel
theorem dL_law_249 : decode cL_law 249 = .ok (.iaload, 1) := by decide +kernel
theorem dL_law_250 : decode cL_law 250 = .ok (.invokevirtual 13, 3) := by decide +kernel
theorem dL_law_253 : decode cL_law 253 = .ok (.aload_n 2, 1) := by decide +kernel
theorem dL_law_254 : decode cL_law 254 = .ok (.aload_n 0, 1) := by decide +kernel
theorem dL_law_255 : decode cL_law 255 = .ok (.iload_n 3, 1) := by decide +kernel
theorem dL_law_256 : decode cL_law 256 = .ok (.iconst 1, 1) := by decide +kernel
theorem dL_law_257 : decode cL_law 257 = .ok (.iadd, 1) := by decide +kernel
theorem dL_law_258 : decode cL_law 258 = .ok (.iaload, 1) := by decide +kernel
theorem dL_law_259 : decode cL_law 259 = .ok (.invokevirtual 17, 3) := by decide +kernel
theorem dL_law_262 : decode cL_law 262 = .ok (.if_icmp .eq 1269, 3) := by decide +kernel
theorem dL_law_265 : decode cL_law 265 = .ok (.iconst 0, 1) := by decide +kernel
theorem dL_law_266 : decode cL_law 266 = .ok (.ireturn, 1) := by decide +kernel
theorem dL_law_267 : decode cL_law 267 = .ok (.aload_n 1, 1) := by decide +kernel
theorem dL_law_268 : decode cL_law 268 = .ok (.invokevirtual 18, 3) := by decide +kernel
theorem dL_law_271 : decode cL_law 271 = .ok (.aload_n 2, 1) := by decide +kernel
theorem dL_law_272 : decode cL_law 272 = .ok (.invokevirtual 22, 3) := by decide +kernel
theorem dL_law_275 : decode cL_law 275 = .ok (.if_icmp .eq 1256, 3) := by decide +kernel
theorem dL_law_278 : decode cL_law 278 = .ok (.iconst 0, 1) := by decide +kernel
theorem dL_law_279 : decode cL_law 279 = .ok (.ireturn, 1) := by decide +kernel
theorem dL_law_280 : decode cL_law 280 = .ok (.aload_n 1, 1) := by decide +kernel
theorem dL_law_281 : decode cL_law 281 = .ok (.aload_n 0, 1) := by decide +kernel
theorem dL_law_282 : decode cL_law 282 = .ok (.iload_n 3, 1) := by decide +kernel
theorem dL_law_283 : decode cL_law 283 = .ok (.iconst 1, 1) := by decide +kernel
theorem dL_law_284 : decode cL_law 284 = .ok (.iadd, 1) := by decide +kernel
theorem dL_law_285 : decode cL_law 285 = .ok (.iaload, 1) := by decide +kernel
theorem dL_law_286 : decode cL_law 286 = .ok (.aload_n 0, 1) := by decide +kernel
theorem dL_law_287 : decode cL_law 287 = .ok (.iload_n 3, 1) := by decide +kernel
theorem dL_law_288 : decode cL_law 288 = .ok (.iconst 2, 1) := by decide +kernel
theorem dL_law_289 : decode cL_law 289 = .ok (.iadd, 1) := by decide +kernel
theorem dL_law_290 : decode cL_law 290 = .ok (.iaload, 1) := by decide +kernel
theorem dL_law_291 : decode cL_law 291 = .ok (.invokevirtual 23, 3) := by decide +kernel
theorem dL_law_294 : decode cL_law 294 = .ok (.aload_n 2, 1) := by decide +kernel
theorem dL_law_295 : decode cL_law 295 = .ok (.aload_n 0, 1) := by decide +kernel
theorem dL_law_296 : decode cL_law 296 = .ok (.iload_n 3, 1) := by decide +kernel
theorem dL_law_297 : decode cL_law 297 = .ok (.iconst 1, 1) := by decide +kernel
theorem dL_law_298 : decode cL_law 298 = .ok (.iadd, 1) := by decide +kernel
theorem dL_law_299 : decode cL_law 299 = .ok (.iaload, 1) := by decide +kernel
theorem dL_law_300 : decode cL_law 300 = .ok (.aload_n 0, 1) := by decide +kernel
theorem dL_law_301 : decode cL_law 301 = .ok (.iload_n 3, 1) := by decide +kernel
theorem dL_law_302 : decode cL_law 302 = .ok (.iconst 2, 1) := by decide +kernel
theorem dL_law_303 : decode cL_law 303 = .ok (.iadd, 1) := by decide +kernel
theorem dL_law_304 : decode cL_law 304 = .ok (.iaload, 1) := by decide +kernel
theorem dL_law_305 : decode cL_law 305 = .ok (.invokevirtual 27, 3) := by decide +kernel
theorem dL_law_308 : decode cL_law 308 = .ok (.if_icmp .eq 1223, 3) := by decide +kernel
theorem dL_law_311 : decode cL_law 311 = .ok (.iconst 0, 1) := by decide +kernel
theorem dL_law_312 : decode cL_law 312 = .ok (.ireturn, 1) := by decide +kernel
theorem dL_law_313 : decode cL_law 313 = .ok (.aload_n 1, 1) := by decide +kernel
theorem dL_law_314 : decode cL_law 314 = .ok (.aload_n 0, 1) := by decide +kernel
theorem dL_law_315 : decode cL_law 315 = .ok (.iload_n 3, 1) := by decide +kernel
theorem dL_law_316 : decode cL_law 316 = .ok (.iconst 1, 1) := by decide +kernel
theorem dL_law_317 : decode cL_law 317 = .ok (.iadd, 1) := by decide +kernel
theorem dL_law_318 : decode cL_law 318 = .ok (.iaload, 1) := by decide +kernel
theorem dL_law_319 : decode cL_law 319 = .ok (.invokevirtual 28, 3) := by decide +kernel
theorem dL_law_322 : decode cL_law 322 = .ok (.aload_n 2, 1) := by decide +kernel
theorem dL_law_323 : decode cL_law 323 = .ok (.aload_n 0, 1) := by decide +kernel
theorem dL_law_324 : decode cL_law 324 = .ok (.iload_n 3, 1) := by decide +kernel
theorem dL_law_325 : decode cL_law 325 = .ok (.iconst 1, 1) := by decide +kernel
theorem dL_law_326 : decode cL_law 326 = .ok (.iadd, 1) := by decide +kernel
theorem dL_law_327 : decode cL_law 327 = .ok (.iaload, 1) := by decide +kernel
theorem dL_law_328 : decode cL_law 328 = .ok (.invokevirtual 31, 3) := by decide +kernel
theorem dL_law_331 : decode cL_law 331 = .ok (.if_icmp .eq 1200, 3) := by decide +kernel
theorem dL_law_334 : decode cL_law 334 = .ok (.iconst 0, 1) := by decide +kernel
theorem dL_law_335 : decode cL_law 335 = .ok (.ireturn, 1) := by decide +kernel
theorem dL_law_336 : decode cL_law 336 = .ok (.aload_n 1, 1) := by decide +kernel
theorem dL_law_337 : decode cL_law 337 = .ok (.invokevirtual 32, 3) := by decide +kernel
theorem dL_law_340 : decode cL_law 340 = .ok (.aload_n 2, 1) := by decide +kernel
theorem dL_law_341 : decode cL_law 341 = .ok (.invokevirtual 35, 3) := by decide +kernel
theorem dL_law_344 : decode cL_law 344 = .ok (.if_icmp .eq 1187, 3) := by decide +kernel
theorem dL_law_347 : decode cL_law 347 = .ok (.iconst 0, 1) := by decide +kernel
theorem dL_law_348 : decode cL_law 348 = .ok (.ireturn, 1) := by decide +kernel
theorem dL_law_349 : decode cL_law 349 = .ok (.aload_n 1, 1) := by decide +kernel
theorem dL_law_350 : decode cL_law 350 = .ok (.aload_n 0, 1) := by decide +kernel
theorem dL_law_351 : decode cL_law 351 = .ok (.iload_n 3, 1) := by decide +kernel
theorem dL_law_352 : decode cL_law 352 = .ok (.iconst 1, 1) := by decide +kernel
theorem dL_law_353 : decode cL_law 353 = .ok (.iadd, 1) := by decide +kernel
theorem dL_law_354 : decode cL_law 354 = .ok (.iaload, 1) := by decide +kernel
theorem dL_law_355 : decode cL_law 355 = .ok (.invokevirtual 36, 3) := by decide +kernel
theorem dL_law_358 : decode cL_law 358 = .ok (.aload_n 2, 1) := by decide +kernel
theorem dL_law_359 : decode cL_law 359 = .ok (.aload_n 0, 1) := by decide +kernel
theorem dL_law_360 : decode cL_law 360 = .ok (.iload_n 3, 1) := by decide +kernel
theorem dL_law_361 : decode cL_law 361 = .ok (.iconst 1, 1) := by decide +kernel
theorem dL_law_362 : decode cL_law 362 = .ok (.iadd, 1) := by decide +kernel
theorem dL_law_363 : decode cL_law 363 = .ok (.iaload, 1) := by decide +kernel
theorem dL_law_364 : decode cL_law 364 = .ok (.invokevirtual 39, 3) := by decide +kernel
theorem dL_law_367 : decode cL_law 367 = .ok (.if_icmp .eq 1164, 3) := by decide +kernel
theorem dL_law_370 : decode cL_law 370 = .ok (.iconst 0, 1) := by decide +kernel
theorem dL_law_371 : decode cL_law 371 = .ok (.ireturn, 1) := by decide +kernel
theorem dL_law_372 : decode cL_law 372 = .ok (.aload_n 1, 1) := by decide +kernel
theorem dL_law_373 : decode cL_law 373 = .ok (.aload_n 0, 1) := by decide +kernel
theorem dL_law_374 : decode cL_law 374 = .ok (.iload_n 3, 1) := by decide +kernel
theorem dL_law_375 : decode cL_law 375 = .ok (.iconst 1, 1) := by decide +kernel
theorem dL_law_376 : decode cL_law 376 = .ok (.iadd, 1) := by decide +kernel
theorem dL_law_377 : decode cL_law 377 = .ok (.iaload, 1) := by decide +kernel
theorem dL_law_378 : decode cL_law 378 = .ok (.invokevirtual 40, 3) := by decide +kernel
theorem dL_law_381 : decode cL_law 381 = .ok (.aload_n 2, 1) := by decide +kernel
theorem dL_law_382 : decode cL_law 382 = .ok (.aload_n 0, 1) := by decide +kernel
theorem dL_law_383 : decode cL_law 383 = .ok (.iload_n 3, 1) := by decide +kernel
theorem dL_law_384 : decode cL_law 384 = .ok (.iconst 1, 1) := by decide +kernel
theorem dL_law_385 : decode cL_law 385 = .ok (.iadd, 1) := by decide +kernel
theorem dL_law_386 : decode cL_law 386 = .ok (.iaload, 1) := by decide +kernel
theorem dL_law_387 : decode cL_law 387 = .ok (.invokevirtual 43, 3) := by decide +kernel
theorem dL_law_390 : decode cL_law 390 = .ok (.if_icmp .eq 1141, 3) := by decide +kernel
theorem dL_law_393 : decode cL_law 393 = .ok (.iconst 0, 1) := by decide +kernel
theorem dL_law_394 : decode cL_law 394 = .ok (.ireturn, 1) := by decide +kernel
theorem dL_law_395 : decode cL_law 395 = .ok (.aload_n 1, 1) := by decide +kernel
theorem dL_law_396 : decode cL_law 396 = .ok (.invokevirtual 44, 3) := by decide +kernel
theorem dL_law_399 : decode cL_law 399 = .ok (.aload_n 2, 1) := by decide +kernel
theorem dL_law_400 : decode cL_law 400 = .ok (.invokevirtual 47, 3) := by decide +kernel
theorem dL_law_403 : decode cL_law 403 = .ok (.if_icmp .eq 1128, 3) := by decide +kernel
theorem dL_law_406 : decode cL_law 406 = .ok (.iconst 0, 1) := by decide +kernel
theorem dL_law_407 : decode cL_law 407 = .ok (.ireturn, 1) := by decide +kernel
theorem dL_law_408 : decode cL_law 408 = .ok (.aload_n 1, 1) := by decide +kernel
theorem dL_law_409 : decode cL_law 409 = .ok (.aload_n 0, 1) := by decide +kernel
theorem dL_law_410 : decode cL_law 410 = .ok (.iload_n 3, 1) := by decide +kernel
theorem dL_law_411 : decode cL_law 411 = .ok (.iconst 1, 1) := by decide +kernel
theorem dL_law_412 : decode cL_law 412 = .ok (.iadd, 1) := by decide +kernel
theorem dL_law_413 : decode cL_law 413 = .ok (.iaload, 1) := by decide +kernel
theorem dL_law_414 : decode cL_law 414 = .ok (.aload_n 0, 1) := by decide +kernel
theorem dL_law_415 : decode cL_law 415 = .ok (.iload_n 3, 1) := by decide +kernel
theorem dL_law_416 : decode cL_law 416 = .ok (.iconst 2, 1) := by decide +kernel
theorem dL_law_417 : decode cL_law 417 = .ok (.iadd, 1) := by decide +kernel
theorem dL_law_418 : decode cL_law 418 = .ok (.iaload, 1) := by decide +kernel
theorem dL_law_419 : decode cL_law 419 = .ok (.invokevirtual 48, 3) := by decide +kernel
theorem dL_law_422 : decode cL_law 422 = .ok (.aload_n 2, 1) := by decide +kernel
theorem dL_law_423 : decode cL_law 423 = .ok (.aload_n 0, 1) := by decide +kernel
theorem dL_law_424 : decode cL_law 424 = .ok (.iload_n 3, 1) := by decide +kernel
theorem dL_law_425 : decode cL_law 425 = .ok (.iconst 1, 1) := by decide +kernel
theorem dL_law_426 : decode cL_law 426 = .ok (.iadd, 1) := by decide +kernel
theorem dL_law_427 : decode cL_law 427 = .ok (.iaload, 1) := by decide +kernel
theorem dL_law_428 : decode cL_law 428 = .ok (.aload_n 0, 1) := by decide +kernel
theorem dL_law_429 : decode cL_law 429 = .ok (.iload_n 3, 1) := by decide +kernel
theorem dL_law_430 : decode cL_law 430 = .ok (.iconst 2, 1) := by decide +kernel
theorem dL_law_431 : decode cL_law 431 = .ok (.iadd, 1) := by decide +kernel
theorem dL_law_432 : decode cL_law 432 = .ok (.iaload, 1) := by decide +kernel
theorem dL_law_433 : decode cL_law 433 = .ok (.invokevirtual 51, 3) := by decide +kernel
theorem dL_law_436 : decode cL_law 436 = .ok (.if_icmp .eq 1095, 3) := by decide +kernel
theorem dL_law_439 : decode cL_law 439 = .ok (.iconst 0, 1) := by decide +kernel
theorem dL_law_440 : decode cL_law 440 = .ok (.ireturn, 1) := by decide +kernel
theorem dL_law_441 : decode cL_law 441 = .ok (.aload_n 1, 1) := by decide +kernel
theorem dL_law_442 : decode cL_law 442 = .ok (.aload_n 0, 1) := by decide +kernel
theorem dL_law_443 : decode cL_law 443 = .ok (.iload_n 3, 1) := by decide +kernel
theorem dL_law_444 : decode cL_law 444 = .ok (.iconst 1, 1) := by decide +kernel
theorem dL_law_445 : decode cL_law 445 = .ok (.iadd, 1) := by decide +kernel
theorem dL_law_446 : decode cL_law 446 = .ok (.iaload, 1) := by decide +kernel
theorem dL_law_447 : decode cL_law 447 = .ok (.aload_n 0, 1) := by decide +kernel
theorem dL_law_448 : decode cL_law 448 = .ok (.iload_n 3, 1) := by decide +kernel
theorem dL_law_449 : decode cL_law 449 = .ok (.iconst 2, 1) := by decide +kernel
theorem dL_law_450 : decode cL_law 450 = .ok (.iadd, 1) := by decide +kernel
theorem dL_law_451 : decode cL_law 451 = .ok (.iaload, 1) := by decide +kernel
theorem dL_law_452 : decode cL_law 452 = .ok (.invokevirtual 52, 3) := by decide +kernel
theorem dL_law_455 : decode cL_law 455 = .ok (.aload_n 2, 1) := by decide +kernel
theorem dL_law_456 : decode cL_law 456 = .ok (.aload_n 0, 1) := by decide +kernel
theorem dL_law_457 : decode cL_law 457 = .ok (.iload_n 3, 1) := by decide +kernel
theorem dL_law_458 : decode cL_law 458 = .ok (.iconst 1, 1) := by decide +kernel
theorem dL_law_459 : decode cL_law 459 = .ok (.iadd, 1) := by decide +kernel
theorem dL_law_460 : decode cL_law 460 = .ok (.iaload, 1) := by decide +kernel
theorem dL_law_461 : decode cL_law 461 = .ok (.aload_n 0, 1) := by decide +kernel
theorem dL_law_462 : decode cL_law 462 = .ok (.iload_n 3, 1) := by decide +kernel
theorem dL_law_463 : decode cL_law 463 = .ok (.iconst 2, 1) := by decide +kernel
theorem dL_law_464 : decode cL_law 464 = .ok (.iadd, 1) := by decide +kernel
theorem dL_law_465 : decode cL_law 465 = .ok (.iaload, 1) := by decide +kernel
theorem dL_law_466 : decode cL_law 466 = .ok (.invokevirtual 55, 3) := by decide +kernel
theorem dL_law_469 : decode cL_law 469 = .ok (.if_icmp .eq 1062, 3) := by decide +kernel
theorem dL_law_472 : decode cL_law 472 = .ok (.iconst 0, 1) := by decide +kernel
theorem dL_law_473 : decode cL_law 473 = .ok (.ireturn, 1) := by decide +kernel
theorem dL_law_474 : decode cL_law 474 = .ok (.aload_n 1, 1) := by decide +kernel
theorem dL_law_475 : decode cL_law 475 = .ok (.aload_n 0, 1) := by decide +kernel
theorem dL_law_476 : decode cL_law 476 = .ok (.iload_n 3, 1) := by decide +kernel
theorem dL_law_477 : decode cL_law 477 = .ok (.iconst 1, 1) := by decide +kernel
theorem dL_law_478 : decode cL_law 478 = .ok (.iadd, 1) := by decide +kernel
theorem dL_law_479 : decode cL_law 479 = .ok (.iaload, 1) := by decide +kernel
theorem dL_law_480 : decode cL_law 480 = .ok (.aload_n 0, 1) := by decide +kernel
theorem dL_law_481 : decode cL_law 481 = .ok (.iload_n 3, 1) := by decide +kernel
theorem dL_law_482 : decode cL_law 482 = .ok (.iconst 2, 1) := by decide +kernel
theorem dL_law_483 : decode cL_law 483 = .ok (.iadd, 1) := by decide +kernel
theorem dL_law_484 : decode cL_law 484 = .ok (.iaload, 1) := by decide +kernel
theorem dL_law_485 : decode cL_law 485 = .ok (.aload_n 0, 1) := by decide +kernel
theorem dL_law_486 : decode cL_law 486 = .ok (.iload_n 3, 1) := by decide +kernel
theorem dL_law_487 : decode cL_law 487 = .ok (.iconst 3, 1) := by decide +kernel
theorem dL_law_488 : decode cL_law 488 = .ok (.iadd, 1) := by decide +kernel
theorem dL_law_489 : decode cL_law 489 = .ok (.iaload, 1) := by decide +kernel
theorem dL_law_490 : decode cL_law 490 = .ok (.aload_n 0, 1) := by decide +kernel
theorem dL_law_491 : decode cL_law 491 = .ok (.iload_n 3, 1) := by decide +kernel
theorem dL_law_492 : decode cL_law 492 = .ok (.iconst 4, 1) := by decide +kernel
theorem dL_law_493 : decode cL_law 493 = .ok (.iadd, 1) := by decide +kernel
theorem dL_law_494 : decode cL_law 494 = .ok (.iaload, 1) := by decide +kernel
theorem dL_law_495 : decode cL_law 495 = .ok (.invokevirtual 56, 3) := by decide +kernel
theorem dL_law_498 : decode cL_law 498 = .ok (.aload_n 2, 1) := by decide +kernel
theorem dL_law_499 : decode cL_law 499 = .ok (.aload_n 0, 1) := by decide +kernel
theorem dL_law_500 : decode cL_law 500 = .ok (.iload_n 3, 1) := by decide +kernel
theorem dL_law_501 : decode cL_law 501 = .ok (.iconst 1, 1) := by decide +kernel
theorem dL_law_502 : decode cL_law 502 = .ok (.iadd, 1) := by decide +kernel
theorem dL_law_503 : decode cL_law 503 = .ok (.iaload, 1) := by decide +kernel
theorem dL_law_504 : decode cL_law 504 = .ok (.aload_n 0, 1) := by decide +kernel
theorem dL_law_505 : decode cL_law 505 = .ok (.iload_n 3, 1) := by decide +kernel
theorem dL_law_506 : decode cL_law 506 = .ok (.iconst 2, 1) := by decide +kernel
theorem dL_law_507 : decode cL_law 507 = .ok (.iadd, 1) := by decide +kernel
theorem dL_law_508 : decode cL_law 508 = .ok (.iaload, 1) := by decide +kernel
theorem dL_law_509 : decode cL_law 509 = .ok (.aload_n 0, 1) := by decide +kernel
theorem dL_law_510 : decode cL_law 510 = .ok (.iload_n 3, 1) := by decide +kernel
theorem dL_law_511 : decode cL_law 511 = .ok (.iconst 3, 1) := by decide +kernel
theorem dL_law_512 : decode cL_law 512 = .ok (.iadd, 1) := by decide +kernel
theorem dL_law_513 : decode cL_law 513 = .ok (.iaload, 1) := by decide +kernel
theorem dL_law_514 : decode cL_law 514 = .ok (.aload_n 0, 1) := by decide +kernel
theorem dL_law_515 : decode cL_law 515 = .ok (.iload_n 3, 1) := by decide +kernel
theorem dL_law_516 : decode cL_law 516 = .ok (.iconst 4, 1) := by decide +kernel
theorem dL_law_517 : decode cL_law 517 = .ok (.iadd, 1) := by decide +kernel
theorem dL_law_518 : decode cL_law 518 = .ok (.iaload, 1) := by decide +kernel
theorem dL_law_519 : decode cL_law 519 = .ok (.invokevirtual 60, 3) := by decide +kernel
theorem dL_law_522 : decode cL_law 522 = .ok (.if_icmp .eq 1009, 3) := by decide +kernel
theorem dL_law_525 : decode cL_law 525 = .ok (.iconst 0, 1) := by decide +kernel
theorem dL_law_526 : decode cL_law 526 = .ok (.ireturn, 1) := by decide +kernel
theorem dL_law_527 : decode cL_law 527 = .ok (.aload_n 1, 1) := by decide +kernel
theorem dL_law_528 : decode cL_law 528 = .ok (.aload_n 0, 1) := by decide +kernel
theorem dL_law_529 : decode cL_law 529 = .ok (.iload_n 3, 1) := by decide +kernel
theorem dL_law_530 : decode cL_law 530 = .ok (.iconst 1, 1) := by decide +kernel
theorem dL_law_531 : decode cL_law 531 = .ok (.iadd, 1) := by decide +kernel
theorem dL_law_532 : decode cL_law 532 = .ok (.iaload, 1) := by decide +kernel
theorem dL_law_533 : decode cL_law 533 = .ok (.aload_n 0, 1) := by decide +kernel
theorem dL_law_534 : decode cL_law 534 = .ok (.iload_n 3, 1) := by decide +kernel
theorem dL_law_535 : decode cL_law 535 = .ok (.iconst 2, 1) := by decide +kernel
theorem dL_law_536 : decode cL_law 536 = .ok (.iadd, 1) := by decide +kernel
theorem dL_law_537 : decode cL_law 537 = .ok (.iaload, 1) := by decide +kernel
theorem dL_law_538 : decode cL_law 538 = .ok (.aload_n 0, 1) := by decide +kernel
theorem dL_law_539 : decode cL_law 539 = .ok (.iload_n 3, 1) := by decide +kernel
theorem dL_law_540 : decode cL_law 540 = .ok (.iconst 3, 1) := by decide +kernel
theorem dL_law_541 : decode cL_law 541 = .ok (.iadd, 1) := by decide +kernel
theorem dL_law_542 : decode cL_law 542 = .ok (.iaload, 1) := by decide +kernel
theorem dL_law_543 : decode cL_law 543 = .ok (.invokevirtual 61, 3) := by decide +kernel
theorem dL_law_546 : decode cL_law 546 = .ok (.aload_n 2, 1) := by decide +kernel
theorem dL_law_547 : decode cL_law 547 = .ok (.aload_n 0, 1) := by decide +kernel
theorem dL_law_548 : decode cL_law 548 = .ok (.iload_n 3, 1) := by decide +kernel
theorem dL_law_549 : decode cL_law 549 = .ok (.iconst 1, 1) := by decide +kernel
theorem dL_law_550 : decode cL_law 550 = .ok (.iadd, 1) := by decide +kernel
theorem dL_law_551 : decode cL_law 551 = .ok (.iaload, 1) := by decide +kernel
theorem dL_law_552 : decode cL_law 552 = .ok (.aload_n 0, 1) := by decide +kernel
theorem dL_law_553 : decode cL_law 553 = .ok (.iload_n 3, 1) := by decide +kernel
theorem dL_law_554 : decode cL_law 554 = .ok (.iconst 2, 1) := by decide +kernel
theorem dL_law_555 : decode cL_law 555 = .ok (.iadd, 1) := by decide +kernel
theorem dL_law_556 : decode cL_law 556 = .ok (.iaload, 1) := by decide +kernel
theorem dL_law_557 : decode cL_law 557 = .ok (.aload_n 0, 1) := by decide +kernel
theorem dL_law_558 : decode cL_law 558 = .ok (.iload_n 3, 1) := by decide +kernel
theorem dL_law_559 : decode cL_law 559 = .ok (.iconst 3, 1) := by decide +kernel
theorem dL_law_560 : decode cL_law 560 = .ok (.iadd, 1) := by decide +kernel
theorem dL_law_561 : decode cL_law 561 = .ok (.iaload, 1) := by decide +kernel
theorem dL_law_562 : decode cL_law 562 = .ok (.invokevirtual 65, 3) := by decide +kernel
theorem dL_law_565 : decode cL_law 565 = .ok (.if_icmp .eq 966, 3) := by decide +kernel
theorem dL_law_568 : decode cL_law 568 = .ok (.iconst 0, 1) := by decide +kernel
theorem dL_law_569 : decode cL_law 569 = .ok (.ireturn, 1) := by decide +kernel
theorem dL_law_570 : decode cL_law 570 = .ok (.aload_n 1, 1) := by decide +kernel
theorem dL_law_571 : decode cL_law 571 = .ok (.aload_n 0, 1) := by decide +kernel
theorem dL_law_572 : decode cL_law 572 = .ok (.iload_n 3, 1) := by decide +kernel
theorem dL_law_573 : decode cL_law 573 = .ok (.iconst 1, 1) := by decide +kernel
theorem dL_law_574 : decode cL_law 574 = .ok (.iadd, 1) := by decide +kernel
theorem dL_law_575 : decode cL_law 575 = .ok (.iaload, 1) := by decide +kernel
theorem dL_law_576 : decode cL_law 576 = .ok (.aload_n 0, 1) := by decide +kernel
theorem dL_law_577 : decode cL_law 577 = .ok (.iload_n 3, 1) := by decide +kernel
theorem dL_law_578 : decode cL_law 578 = .ok (.iconst 2, 1) := by decide +kernel
theorem dL_law_579 : decode cL_law 579 = .ok (.iadd, 1) := by decide +kernel
theorem dL_law_580 : decode cL_law 580 = .ok (.iaload, 1) := by decide +kernel
theorem dL_law_581 : decode cL_law 581 = .ok (.aload_n 0, 1) := by decide +kernel
theorem dL_law_582 : decode cL_law 582 = .ok (.iload_n 3, 1) := by decide +kernel
theorem dL_law_583 : decode cL_law 583 = .ok (.iconst 3, 1) := by decide +kernel
theorem dL_law_584 : decode cL_law 584 = .ok (.iadd, 1) := by decide +kernel
theorem dL_law_585 : decode cL_law 585 = .ok (.iaload, 1) := by decide +kernel
theorem dL_law_586 : decode cL_law 586 = .ok (.aload_n 0, 1) := by decide +kernel
theorem dL_law_587 : decode cL_law 587 = .ok (.iload_n 3, 1) := by decide +kernel
theorem dL_law_588 : decode cL_law 588 = .ok (.iconst 4, 1) := by decide +kernel
theorem dL_law_589 : decode cL_law 589 = .ok (.iadd, 1) := by decide +kernel
theorem dL_law_590 : decode cL_law 590 = .ok (.iaload, 1) := by decide +kernel
theorem dL_law_591 : decode cL_law 591 = .ok (.invokevirtual 66, 3) := by decide +kernel
theorem dL_law_594 : decode cL_law 594 = .ok (.aload_n 2, 1) := by decide +kernel
theorem dL_law_595 : decode cL_law 595 = .ok (.aload_n 0, 1) := by decide +kernel
theorem dL_law_596 : decode cL_law 596 = .ok (.iload_n 3, 1) := by decide +kernel
theorem dL_law_597 : decode cL_law 597 = .ok (.iconst 1, 1) := by decide +kernel
theorem dL_law_598 : decode cL_law 598 = .ok (.iadd, 1) := by decide +kernel
theorem dL_law_599 : decode cL_law 599 = .ok (.iaload, 1) := by decide +kernel
theorem dL_law_600 : decode cL_law 600 = .ok (.aload_n 0, 1) := by decide +kernel
theorem dL_law_601 : decode cL_law 601 = .ok (.iload_n 3, 1) := by decide +kernel
theorem dL_law_602 : decode cL_law 602 = .ok (.iconst 2, 1) := by decide +kernel
theorem dL_law_603 : decode cL_law 603 = .ok (.iadd, 1) := by decide +kernel
theorem dL_law_604 : decode cL_law 604 = .ok (.iaload, 1) := by decide +kernel
theorem dL_law_605 : decode cL_law 605 = .ok (.aload_n 0, 1) := by decide +kernel
theorem dL_law_606 : decode cL_law 606 = .ok (.iload_n 3, 1) := by decide +kernel
theorem dL_law_607 : decode cL_law 607 = .ok (.iconst 3, 1) := by decide +kernel
theorem dL_law_608 : decode cL_law 608 = .ok (.iadd, 1) := by decide +kernel
theorem dL_law_609 : decode cL_law 609 = .ok (.iaload, 1) := by decide +kernel
theorem dL_law_610 : decode cL_law 610 = .ok (.aload_n 0, 1) := by decide +kernel
theorem dL_law_611 : decode cL_law 611 = .ok (.iload_n 3, 1) := by decide +kernel
theorem dL_law_612 : decode cL_law 612 = .ok (.iconst 4, 1) := by decide +kernel
theorem dL_law_613 : decode cL_law 613 = .ok (.iadd, 1) := by decide +kernel
theorem dL_law_614 : decode cL_law 614 = .ok (.iaload, 1) := by decide +kernel
theorem dL_law_615 : decode cL_law 615 = .ok (.invokevirtual 69, 3) := by decide +kernel
theorem dL_law_618 : decode cL_law 618 = .ok (.if_icmp .eq 913, 3) := by decide +kernel
theorem dL_law_621 : decode cL_law 621 = .ok (.iconst 0, 1) := by decide +kernel
theorem dL_law_622 : decode cL_law 622 = .ok (.ireturn, 1) := by decide +kernel
theorem dL_law_623 : decode cL_law 623 = .ok (.aload_n 1, 1) := by decide +kernel
theorem dL_law_624 : decode cL_law 624 = .ok (.invokevirtual 70, 3) := by decide +kernel
theorem dL_law_627 : decode cL_law 627 = .ok (.aload_n 2, 1) := by decide +kernel
theorem dL_law_628 : decode cL_law 628 = .ok (.invokevirtual 73, 3) := by decide +kernel
theorem dL_law_631 : decode cL_law 631 = .ok (.if_icmp .eq 900, 3) := by decide +kernel
theorem dL_law_634 : decode cL_law 634 = .ok (.iconst 0, 1) := by decide +kernel
theorem dL_law_635 : decode cL_law 635 = .ok (.ireturn, 1) := by decide +kernel
theorem dL_law_636 : decode cL_law 636 = .ok (.aload_n 1, 1) := by decide +kernel
theorem dL_law_637 : decode cL_law 637 = .ok (.aload_n 0, 1) := by decide +kernel
theorem dL_law_638 : decode cL_law 638 = .ok (.iload_n 3, 1) := by decide +kernel
theorem dL_law_639 : decode cL_law 639 = .ok (.iconst 1, 1) := by decide +kernel
theorem dL_law_640 : decode cL_law 640 = .ok (.iadd, 1) := by decide +kernel
theorem dL_law_641 : decode cL_law 641 = .ok (.iaload, 1) := by decide +kernel
theorem dL_law_642 : decode cL_law 642 = .ok (.invokevirtual 74, 3) := by decide +kernel
theorem dL_law_645 : decode cL_law 645 = .ok (.aload_n 2, 1) := by decide +kernel
theorem dL_law_646 : decode cL_law 646 = .ok (.aload_n 0, 1) := by decide +kernel
theorem dL_law_647 : decode cL_law 647 = .ok (.iload_n 3, 1) := by decide +kernel
theorem dL_law_648 : decode cL_law 648 = .ok (.iconst 1, 1) := by decide +kernel
theorem dL_law_649 : decode cL_law 649 = .ok (.iadd, 1) := by decide +kernel
theorem dL_law_650 : decode cL_law 650 = .ok (.iaload, 1) := by decide +kernel
theorem dL_law_651 : decode cL_law 651 = .ok (.invokevirtual 77, 3) := by decide +kernel
theorem dL_law_654 : decode cL_law 654 = .ok (.if_icmp .eq 877, 3) := by decide +kernel
theorem dL_law_657 : decode cL_law 657 = .ok (.iconst 0, 1) := by decide +kernel
theorem dL_law_658 : decode cL_law 658 = .ok (.ireturn, 1) := by decide +kernel
theorem dL_law_659 : decode cL_law 659 = .ok (.aload_n 1, 1) := by decide +kernel
theorem dL_law_660 : decode cL_law 660 = .ok (.aload_n 0, 1) := by decide +kernel
theorem dL_law_661 : decode cL_law 661 = .ok (.iload_n 3, 1) := by decide +kernel
theorem dL_law_662 : decode cL_law 662 = .ok (.iconst 1, 1) := by decide +kernel
theorem dL_law_663 : decode cL_law 663 = .ok (.iadd, 1) := by decide +kernel
theorem dL_law_664 : decode cL_law 664 = .ok (.iaload, 1) := by decide +kernel
theorem dL_law_665 : decode cL_law 665 = .ok (.invokevirtual 78, 3) := by decide +kernel
theorem dL_law_668 : decode cL_law 668 = .ok (.aload_n 2, 1) := by decide +kernel
theorem dL_law_669 : decode cL_law 669 = .ok (.aload_n 0, 1) := by decide +kernel
theorem dL_law_670 : decode cL_law 670 = .ok (.iload_n 3, 1) := by decide +kernel
theorem dL_law_671 : decode cL_law 671 = .ok (.iconst 1, 1) := by decide +kernel
theorem dL_law_672 : decode cL_law 672 = .ok (.iadd, 1) := by decide +kernel
theorem dL_law_673 : decode cL_law 673 = .ok (.iaload, 1) := by decide +kernel
theorem dL_law_674 : decode cL_law 674 = .ok (.invokevirtual 81, 3) := by decide +kernel
theorem dL_law_677 : decode cL_law 677 = .ok (.if_icmp .eq 854, 3) := by decide +kernel
theorem dL_law_680 : decode cL_law 680 = .ok (.iconst 0, 1) := by decide +kernel
theorem dL_law_681 : decode cL_law 681 = .ok (.ireturn, 1) := by decide +kernel
theorem dL_law_682 : decode cL_law 682 = .ok (.aload_n 1, 1) := by decide +kernel
theorem dL_law_683 : decode cL_law 683 = .ok (.aload_n 0, 1) := by decide +kernel
theorem dL_law_684 : decode cL_law 684 = .ok (.iload_n 3, 1) := by decide +kernel
theorem dL_law_685 : decode cL_law 685 = .ok (.iconst 1, 1) := by decide +kernel
theorem dL_law_686 : decode cL_law 686 = .ok (.iadd, 1) := by decide +kernel
theorem dL_law_687 : decode cL_law 687 = .ok (.iaload, 1) := by decide +kernel
theorem dL_law_688 : decode cL_law 688 = .ok (.aload_n 0, 1) := by decide +kernel
theorem dL_law_689 : decode cL_law 689 = .ok (.iload_n 3, 1) := by decide +kernel
theorem dL_law_690 : decode cL_law 690 = .ok (.iconst 2, 1) := by decide +kernel
theorem dL_law_691 : decode cL_law 691 = .ok (.iadd, 1) := by decide +kernel
theorem dL_law_692 : decode cL_law 692 = .ok (.iaload, 1) := by decide +kernel
theorem dL_law_693 : decode cL_law 693 = .ok (.invokevirtual 82, 3) := by decide +kernel
theorem dL_law_696 : decode cL_law 696 = .ok (.aload_n 2, 1) := by decide +kernel
theorem dL_law_697 : decode cL_law 697 = .ok (.aload_n 0, 1) := by decide +kernel
theorem dL_law_698 : decode cL_law 698 = .ok (.iload_n 3, 1) := by decide +kernel
theorem dL_law_699 : decode cL_law 699 = .ok (.iconst 1, 1) := by decide +kernel
theorem dL_law_700 : decode cL_law 700 = .ok (.iadd, 1) := by decide +kernel
theorem dL_law_701 : decode cL_law 701 = .ok (.iaload, 1) := by decide +kernel
theorem dL_law_702 : decode cL_law 702 = .ok (.aload_n 0, 1) := by decide +kernel
theorem dL_law_703 : decode cL_law 703 = .ok (.iload_n 3, 1) := by decide +kernel
theorem dL_law_704 : decode cL_law 704 = .ok (.iconst 2, 1) := by decide +kernel
theorem dL_law_705 : decode cL_law 705 = .ok (.iadd, 1) := by decide +kernel
theorem dL_law_706 : decode cL_law 706 = .ok (.iaload, 1) := by decide +kernel
theorem dL_law_707 : decode cL_law 707 = .ok (.invokevirtual 85, 3) := by decide +kernel
theorem dL_law_710 : decode cL_law 710 = .ok (.if_icmp .eq 821, 3) := by decide +kernel
theorem dL_law_713 : decode cL_law 713 = .ok (.iconst 0, 1) := by decide +kernel
theorem dL_law_714 : decode cL_law 714 = .ok (.ireturn, 1) := by decide +kernel
theorem dL_law_715 : decode cL_law 715 = .ok (.aload_n 1, 1) := by decide +kernel
theorem dL_law_716 : decode cL_law 716 = .ok (.aload_n 0, 1) := by decide +kernel
theorem dL_law_717 : decode cL_law 717 = .ok (.iload_n 3, 1) := by decide +kernel
theorem dL_law_718 : decode cL_law 718 = .ok (.iconst 1, 1) := by decide +kernel
theorem dL_law_719 : decode cL_law 719 = .ok (.iadd, 1) := by decide +kernel
theorem dL_law_720 : decode cL_law 720 = .ok (.iaload, 1) := by decide +kernel
theorem dL_law_721 : decode cL_law 721 = .ok (.aload_n 0, 1) := by decide +kernel
theorem dL_law_722 : decode cL_law 722 = .ok (.iload_n 3, 1) := by decide +kernel
theorem dL_law_723 : decode cL_law 723 = .ok (.iconst 2, 1) := by decide +kernel
theorem dL_law_724 : decode cL_law 724 = .ok (.iadd, 1) := by decide +kernel
theorem dL_law_725 : decode cL_law 725 = .ok (.iaload, 1) := by decide +kernel
theorem dL_law_726 : decode cL_law 726 = .ok (.invokevirtual 86, 3) := by decide +kernel
theorem dL_law_729 : decode cL_law 729 = .ok (.aload_n 2, 1) := by decide +kernel
theorem dL_law_730 : decode cL_law 730 = .ok (.aload_n 0, 1) := by decide +kernel
theorem dL_law_731 : decode cL_law 731 = .ok (.iload_n 3, 1) := by decide +kernel
theorem dL_law_732 : decode cL_law 732 = .ok (.iconst 1, 1) := by decide +kernel
theorem dL_law_733 : decode cL_law 733 = .ok (.iadd, 1) := by decide +kernel
theorem dL_law_734 : decode cL_law 734 = .ok (.iaload, 1) := by decide +kernel
theorem dL_law_735 : decode cL_law 735 = .ok (.aload_n 0, 1) := by decide +kernel
theorem dL_law_736 : decode cL_law 736 = .ok (.iload_n 3, 1) := by decide +kernel
theorem dL_law_737 : decode cL_law 737 = .ok (.iconst 2, 1) := by decide +kernel
theorem dL_law_738 : decode cL_law 738 = .ok (.iadd, 1) := by decide +kernel
theorem dL_law_739 : decode cL_law 739 = .ok (.iaload, 1) := by decide +kernel
theorem dL_law_740 : decode cL_law 740 = .ok (.invokevirtual 89, 3) := by decide +kernel
theorem dL_law_743 : decode cL_law 743 = .ok (.if_icmp .eq 788, 3) := by decide +kernel
theorem dL_law_746 : decode cL_law 746 = .ok (.iconst 0, 1) := by decide +kernel
theorem dL_law_747 : decode cL_law 747 = .ok (.ireturn, 1) := by decide +kernel
theorem dL_law_748 : decode cL_law 748 = .ok (.aload_n 1, 1) := by decide +kernel
theorem dL_law_749 : decode cL_law 749 = .ok (.aload_n 0, 1) := by decide +kernel
theorem dL_law_750 : decode cL_law 750 = .ok (.iload_n 3, 1) := by decide +kernel
theorem dL_law_751 : decode cL_law 751 = .ok (.iconst 1, 1) := by decide +kernel
theorem dL_law_752 : decode cL_law 752 = .ok (.iadd, 1) := by decide +kernel
theorem dL_law_753 : decode cL_law 753 = .ok (.iaload, 1) := by decide +kernel
theorem dL_law_754 : decode cL_law 754 = .ok (.aload_n 0, 1) := by decide +kernel
theorem dL_law_755 : decode cL_law 755 = .ok (.iload_n 3, 1) := by decide +kernel
theorem dL_law_756 : decode cL_law 756 = .ok (.iconst 2, 1) := by decide +kernel
theorem dL_law_757 : decode cL_law 757 = .ok (.iadd, 1) := by decide +kernel
theorem dL_law_758 : decode cL_law 758 = .ok (.iaload, 1) := by decide +kernel
theorem dL_law_759 : decode cL_law 759 = .ok (.invokevirtual 90, 3) := by decide +kernel
theorem dL_law_762 : decode cL_law 762 = .ok (.aload_n 2, 1) := by decide +kernel
theorem dL_law_763 : decode cL_law 763 = .ok (.aload_n 0, 1) := by decide +kernel
theorem dL_law_764 : decode cL_law 764 = .ok (.iload_n 3, 1) := by decide +kernel
theorem dL_law_765 : decode cL_law 765 = .ok (.iconst 1, 1) := by decide +kernel
theorem dL_law_766 : decode cL_law 766 = .ok (.iadd, 1) := by decide +kernel
theorem dL_law_767 : decode cL_law 767 = .ok (.iaload, 1) := by decide +kernel
theorem dL_law_768 : decode cL_law 768 = .ok (.aload_n 0, 1) := by decide +kernel
theorem dL_law_769 : decode cL_law 769 = .ok (.iload_n 3, 1) := by decide +kernel
theorem dL_law_770 : decode cL_law 770 = .ok (.iconst 2, 1) := by decide +kernel
theorem dL_law_771 : decode cL_law 771 = .ok (.iadd, 1) := by decide +kernel
theorem dL_law_772 : decode cL_law 772 = .ok (.iaload, 1) := by decide +kernel
theorem dL_law_773 : decode cL_law 773 = .ok (.invokevirtual 93, 3) := by decide +kernel
theorem dL_law_776 : decode cL_law 776 = .ok (.if_icmp .eq 755, 3) := by decide +kernel
theorem dL_law_779 : decode cL_law 779 = .ok (.iconst 0, 1) := by decide +kernel
theorem dL_law_780 : decode cL_law 780 = .ok (.ireturn, 1) := by decide +kernel
theorem dL_law_781 : decode cL_law 781 = .ok (.aload_n 1, 1) := by decide +kernel
theorem dL_law_782 : decode cL_law 782 = .ok (.aload_n 0, 1) := by decide +kernel
theorem dL_law_783 : decode cL_law 783 = .ok (.iload_n 3, 1) := by decide +kernel
theorem dL_law_784 : decode cL_law 784 = .ok (.iconst 1, 1) := by decide +kernel
theorem dL_law_785 : decode cL_law 785 = .ok (.iadd, 1) := by decide +kernel
theorem dL_law_786 : decode cL_law 786 = .ok (.iaload, 1) := by decide +kernel
theorem dL_law_787 : decode cL_law 787 = .ok (.invokevirtual 94, 3) := by decide +kernel
theorem dL_law_790 : decode cL_law 790 = .ok (.aload_n 2, 1) := by decide +kernel
theorem dL_law_791 : decode cL_law 791 = .ok (.aload_n 0, 1) := by decide +kernel
theorem dL_law_792 : decode cL_law 792 = .ok (.iload_n 3, 1) := by decide +kernel
theorem dL_law_793 : decode cL_law 793 = .ok (.iconst 1, 1) := by decide +kernel
theorem dL_law_794 : decode cL_law 794 = .ok (.iadd, 1) := by decide +kernel
theorem dL_law_795 : decode cL_law 795 = .ok (.iaload, 1) := by decide +kernel
theorem dL_law_796 : decode cL_law 796 = .ok (.invokevirtual 97, 3) := by decide +kernel
theorem dL_law_799 : decode cL_law 799 = .ok (.if_icmp .eq 732, 3) := by decide +kernel
theorem dL_law_802 : decode cL_law 802 = .ok (.iconst 0, 1) := by decide +kernel
theorem dL_law_803 : decode cL_law 803 = .ok (.ireturn, 1) := by decide +kernel
theorem dL_law_804 : decode cL_law 804 = .ok (.aload_n 1, 1) := by decide +kernel
theorem dL_law_805 : decode cL_law 805 = .ok (.aload_n 0, 1) := by decide +kernel
theorem dL_law_806 : decode cL_law 806 = .ok (.iload_n 3, 1) := by decide +kernel
theorem dL_law_807 : decode cL_law 807 = .ok (.iconst 1, 1) := by decide +kernel
theorem dL_law_808 : decode cL_law 808 = .ok (.iadd, 1) := by decide +kernel
theorem dL_law_809 : decode cL_law 809 = .ok (.iaload, 1) := by decide +kernel
theorem dL_law_810 : decode cL_law 810 = .ok (.aload_n 0, 1) := by decide +kernel
theorem dL_law_811 : decode cL_law 811 = .ok (.iload_n 3, 1) := by decide +kernel
theorem dL_law_812 : decode cL_law 812 = .ok (.iconst 2, 1) := by decide +kernel
theorem dL_law_813 : decode cL_law 813 = .ok (.iadd, 1) := by decide +kernel
theorem dL_law_814 : decode cL_law 814 = .ok (.iaload, 1) := by decide +kernel
theorem dL_law_815 : decode cL_law 815 = .ok (.invokevirtual 98, 3) := by decide +kernel
theorem dL_law_818 : decode cL_law 818 = .ok (.aload_n 2, 1) := by decide +kernel
theorem dL_law_819 : decode cL_law 819 = .ok (.aload_n 0, 1) := by decide +kernel
theorem dL_law_820 : decode cL_law 820 = .ok (.iload_n 3, 1) := by decide +kernel
theorem dL_law_821 : decode cL_law 821 = .ok (.iconst 1, 1) := by decide +kernel
theorem dL_law_822 : decode cL_law 822 = .ok (.iadd, 1) := by decide +kernel
theorem dL_law_823 : decode cL_law 823 = .ok (.iaload, 1) := by decide +kernel
theorem dL_law_824 : decode cL_law 824 = .ok (.aload_n 0, 1) := by decide +kernel
theorem dL_law_825 : decode cL_law 825 = .ok (.iload_n 3, 1) := by decide +kernel
theorem dL_law_826 : decode cL_law 826 = .ok (.iconst 2, 1) := by decide +kernel
theorem dL_law_827 : decode cL_law 827 = .ok (.iadd, 1) := by decide +kernel
theorem dL_law_828 : decode cL_law 828 = .ok (.iaload, 1) := by decide +kernel
theorem dL_law_829 : decode cL_law 829 = .ok (.invokevirtual 101, 3) := by decide +kernel
theorem dL_law_832 : decode cL_law 832 = .ok (.if_icmp .eq 699, 3) := by decide +kernel
theorem dL_law_835 : decode cL_law 835 = .ok (.iconst 0, 1) := by decide +kernel
theorem dL_law_836 : decode cL_law 836 = .ok (.ireturn, 1) := by decide +kernel
theorem dL_law_837 : decode cL_law 837 = .ok (.aload_n 1, 1) := by decide +kernel
theorem dL_law_838 : decode cL_law 838 = .ok (.aload_n 0, 1) := by decide +kernel
theorem dL_law_839 : decode cL_law 839 = .ok (.iload_n 3, 1) := by decide +kernel
theorem dL_law_840 : decode cL_law 840 = .ok (.iconst 1, 1) := by decide +kernel
theorem dL_law_841 : decode cL_law 841 = .ok (.iadd, 1) := by decide +kernel
theorem dL_law_842 : decode cL_law 842 = .ok (.iaload, 1) := by decide +kernel
theorem dL_law_843 : decode cL_law 843 = .ok (.aload_n 0, 1) := by decide +kernel
theorem dL_law_844 : decode cL_law 844 = .ok (.iload_n 3, 1) := by decide +kernel
theorem dL_law_845 : decode cL_law 845 = .ok (.iconst 2, 1) := by decide +kernel
theorem dL_law_846 : decode cL_law 846 = .ok (.iadd, 1) := by decide +kernel
theorem dL_law_847 : decode cL_law 847 = .ok (.iaload, 1) := by decide +kernel
theorem dL_law_848 : decode cL_law 848 = .ok (.aload_n 0, 1) := by decide +kernel
theorem dL_law_849 : decode cL_law 849 = .ok (.iload_n 3, 1) := by decide +kernel
theorem dL_law_850 : decode cL_law 850 = .ok (.iconst 3, 1) := by decide +kernel
theorem dL_law_851 : decode cL_law 851 = .ok (.iadd, 1) := by decide +kernel
theorem dL_law_852 : decode cL_law 852 = .ok (.iaload, 1) := by decide +kernel
theorem dL_law_853 : decode cL_law 853 = .ok (.aload_n 0, 1) := by decide +kernel
theorem dL_law_854 : decode cL_law 854 = .ok (.iload_n 3, 1) := by decide +kernel
theorem dL_law_855 : decode cL_law 855 = .ok (.iconst 4, 1) := by decide +kernel
theorem dL_law_856 : decode cL_law 856 = .ok (.iadd, 1) := by decide +kernel
theorem dL_law_857 : decode cL_law 857 = .ok (.iaload, 1) := by decide +kernel
theorem dL_law_858 : decode cL_law 858 = .ok (.invokevirtual 102, 3) := by decide +kernel
theorem dL_law_861 : decode cL_law 861 = .ok (.aload_n 2, 1) := by decide +kernel
theorem dL_law_862 : decode cL_law 862 = .ok (.aload_n 0, 1) := by decide +kernel
theorem dL_law_863 : decode cL_law 863 = .ok (.iload_n 3, 1) := by decide +kernel
theorem dL_law_864 : decode cL_law 864 = .ok (.iconst 1, 1) := by decide +kernel
theorem dL_law_865 : decode cL_law 865 = .ok (.iadd, 1) := by decide +kernel
theorem dL_law_866 : decode cL_law 866 = .ok (.iaload, 1) := by decide +kernel
theorem dL_law_867 : decode cL_law 867 = .ok (.aload_n 0, 1) := by decide +kernel
theorem dL_law_868 : decode cL_law 868 = .ok (.iload_n 3, 1) := by decide +kernel
theorem dL_law_869 : decode cL_law 869 = .ok (.iconst 2, 1) := by decide +kernel
theorem dL_law_870 : decode cL_law 870 = .ok (.iadd, 1) := by decide +kernel
theorem dL_law_871 : decode cL_law 871 = .ok (.iaload, 1) := by decide +kernel
theorem dL_law_872 : decode cL_law 872 = .ok (.aload_n 0, 1) := by decide +kernel
theorem dL_law_873 : decode cL_law 873 = .ok (.iload_n 3, 1) := by decide +kernel
theorem dL_law_874 : decode cL_law 874 = .ok (.iconst 3, 1) := by decide +kernel
theorem dL_law_875 : decode cL_law 875 = .ok (.iadd, 1) := by decide +kernel
theorem dL_law_876 : decode cL_law 876 = .ok (.iaload, 1) := by decide +kernel
theorem dL_law_877 : decode cL_law 877 = .ok (.aload_n 0, 1) := by decide +kernel
theorem dL_law_878 : decode cL_law 878 = .ok (.iload_n 3, 1) := by decide +kernel
theorem dL_law_879 : decode cL_law 879 = .ok (.iconst 4, 1) := by decide +kernel
theorem dL_law_880 : decode cL_law 880 = .ok (.iadd, 1) := by decide +kernel
theorem dL_law_881 : decode cL_law 881 = .ok (.iaload, 1) := by decide +kernel
theorem dL_law_882 : decode cL_law 882 = .ok (.invokevirtual 105, 3) := by decide +kernel
theorem dL_law_885 : decode cL_law 885 = .ok (.if_icmp .eq 646, 3) := by decide +kernel
theorem dL_law_888 : decode cL_law 888 = .ok (.iconst 0, 1) := by decide +kernel
theorem dL_law_889 : decode cL_law 889 = .ok (.ireturn, 1) := by decide +kernel
theorem dL_law_890 : decode cL_law 890 = .ok (.aload_n 1, 1) := by decide +kernel
theorem dL_law_891 : decode cL_law 891 = .ok (.aload_n 0, 1) := by decide +kernel
theorem dL_law_892 : decode cL_law 892 = .ok (.iload_n 3, 1) := by decide +kernel
theorem dL_law_893 : decode cL_law 893 = .ok (.iconst 1, 1) := by decide +kernel
theorem dL_law_894 : decode cL_law 894 = .ok (.iadd, 1) := by decide +kernel
theorem dL_law_895 : decode cL_law 895 = .ok (.iaload, 1) := by decide +kernel
theorem dL_law_896 : decode cL_law 896 = .ok (.invokevirtual 106, 3) := by decide +kernel
theorem dL_law_899 : decode cL_law 899 = .ok (.aload_n 2, 1) := by decide +kernel
theorem dL_law_900 : decode cL_law 900 = .ok (.aload_n 0, 1) := by decide +kernel
theorem dL_law_901 : decode cL_law 901 = .ok (.iload_n 3, 1) := by decide +kernel
theorem dL_law_902 : decode cL_law 902 = .ok (.iconst 1, 1) := by decide +kernel
theorem dL_law_903 : decode cL_law 903 = .ok (.iadd, 1) := by decide +kernel
theorem dL_law_904 : decode cL_law 904 = .ok (.iaload, 1) := by decide +kernel
theorem dL_law_905 : decode cL_law 905 = .ok (.invokevirtual 109, 3) := by decide +kernel
theorem dL_law_908 : decode cL_law 908 = .ok (.if_icmp .eq 623, 3) := by decide +kernel
theorem dL_law_911 : decode cL_law 911 = .ok (.iconst 0, 1) := by decide +kernel
theorem dL_law_912 : decode cL_law 912 = .ok (.ireturn, 1) := by decide +kernel
theorem dL_law_913 : decode cL_law 913 = .ok (.aload_n 1, 1) := by decide +kernel
theorem dL_law_914 : decode cL_law 914 = .ok (.invokevirtual 110, 3) := by decide +kernel
theorem dL_law_917 : decode cL_law 917 = .ok (.aload_n 2, 1) := by decide +kernel
theorem dL_law_918 : decode cL_law 918 = .ok (.invokevirtual 113, 3) := by decide +kernel
theorem dL_law_921 : decode cL_law 921 = .ok (.if_icmp .eq 610, 3) := by decide +kernel
theorem dL_law_924 : decode cL_law 924 = .ok (.iconst 0, 1) := by decide +kernel
theorem dL_law_925 : decode cL_law 925 = .ok (.ireturn, 1) := by decide +kernel
theorem dL_law_926 : decode cL_law 926 = .ok (.aload_n 1, 1) := by decide +kernel
theorem dL_law_927 : decode cL_law 927 = .ok (.invokevirtual 114, 3) := by decide +kernel
theorem dL_law_930 : decode cL_law 930 = .ok (.aload_n 2, 1) := by decide +kernel
theorem dL_law_931 : decode cL_law 931 = .ok (.invokevirtual 117, 3) := by decide +kernel
theorem dL_law_934 : decode cL_law 934 = .ok (.if_icmp .eq 597, 3) := by decide +kernel
theorem dL_law_937 : decode cL_law 937 = .ok (.iconst 0, 1) := by decide +kernel
theorem dL_law_938 : decode cL_law 938 = .ok (.ireturn, 1) := by decide +kernel
theorem dL_law_939 : decode cL_law 939 = .ok (.aload_n 1, 1) := by decide +kernel
theorem dL_law_940 : decode cL_law 940 = .ok (.aload_n 0, 1) := by decide +kernel
theorem dL_law_941 : decode cL_law 941 = .ok (.iload_n 3, 1) := by decide +kernel
theorem dL_law_942 : decode cL_law 942 = .ok (.iconst 1, 1) := by decide +kernel
theorem dL_law_943 : decode cL_law 943 = .ok (.iadd, 1) := by decide +kernel
theorem dL_law_944 : decode cL_law 944 = .ok (.iaload, 1) := by decide +kernel
theorem dL_law_945 : decode cL_law 945 = .ok (.invokevirtual 118, 3) := by decide +kernel
theorem dL_law_948 : decode cL_law 948 = .ok (.aload_n 2, 1) := by decide +kernel
theorem dL_law_949 : decode cL_law 949 = .ok (.aload_n 0, 1) := by decide +kernel
theorem dL_law_950 : decode cL_law 950 = .ok (.iload_n 3, 1) := by decide +kernel
theorem dL_law_951 : decode cL_law 951 = .ok (.iconst 1, 1) := by decide +kernel
theorem dL_law_952 : decode cL_law 952 = .ok (.iadd, 1) := by decide +kernel
theorem dL_law_953 : decode cL_law 953 = .ok (.iaload, 1) := by decide +kernel
theorem dL_law_954 : decode cL_law 954 = .ok (.invokevirtual 121, 3) := by decide +kernel
theorem dL_law_957 : decode cL_law 957 = .ok (.if_icmp .eq 574, 3) := by decide +kernel
theorem dL_law_960 : decode cL_law 960 = .ok (.iconst 0, 1) := by decide +kernel
theorem dL_law_961 : decode cL_law 961 = .ok (.ireturn, 1) := by decide +kernel
theorem dL_law_962 : decode cL_law 962 = .ok (.aload_n 1, 1) := by decide +kernel
theorem dL_law_963 : decode cL_law 963 = .ok (.invokevirtual 122, 3) := by decide +kernel
theorem dL_law_966 : decode cL_law 966 = .ok (.aload_n 2, 1) := by decide +kernel
theorem dL_law_967 : decode cL_law 967 = .ok (.invokevirtual 125, 3) := by decide +kernel
theorem dL_law_970 : decode cL_law 970 = .ok (.if_icmp .eq 561, 3) := by decide +kernel
theorem dL_law_973 : decode cL_law 973 = .ok (.iconst 0, 1) := by decide +kernel
theorem dL_law_974 : decode cL_law 974 = .ok (.ireturn, 1) := by decide +kernel
theorem dL_law_975 : decode cL_law 975 = .ok (.aload_n 1, 1) := by decide +kernel
theorem dL_law_976 : decode cL_law 976 = .ok (.aload_n 0, 1) := by decide +kernel
theorem dL_law_977 : decode cL_law 977 = .ok (.iload_n 3, 1) := by decide +kernel
theorem dL_law_978 : decode cL_law 978 = .ok (.iconst 1, 1) := by decide +kernel
theorem dL_law_979 : decode cL_law 979 = .ok (.iadd, 1) := by decide +kernel
theorem dL_law_980 : decode cL_law 980 = .ok (.iaload, 1) := by decide +kernel
theorem dL_law_981 : decode cL_law 981 = .ok (.aload_n 0, 1) := by decide +kernel
theorem dL_law_982 : decode cL_law 982 = .ok (.iload_n 3, 1) := by decide +kernel
theorem dL_law_983 : decode cL_law 983 = .ok (.iconst 2, 1) := by decide +kernel
theorem dL_law_984 : decode cL_law 984 = .ok (.iadd, 1) := by decide +kernel
theorem dL_law_985 : decode cL_law 985 = .ok (.iaload, 1) := by decide +kernel
theorem dL_law_986 : decode cL_law 986 = .ok (.aload_n 0, 1) := by decide +kernel
theorem dL_law_987 : decode cL_law 987 = .ok (.iload_n 3, 1) := by decide +kernel
theorem dL_law_988 : decode cL_law 988 = .ok (.iconst 3, 1) := by decide +kernel
theorem dL_law_989 : decode cL_law 989 = .ok (.iadd, 1) := by decide +kernel
theorem dL_law_990 : decode cL_law 990 = .ok (.iaload, 1) := by decide +kernel
theorem dL_law_991 : decode cL_law 991 = .ok (.invokevirtual 126, 3) := by decide +kernel
theorem dL_law_994 : decode cL_law 994 = .ok (.aload_n 2, 1) := by decide +kernel
theorem dL_law_995 : decode cL_law 995 = .ok (.aload_n 0, 1) := by decide +kernel
theorem dL_law_996 : decode cL_law 996 = .ok (.iload_n 3, 1) := by decide +kernel
theorem dL_law_997 : decode cL_law 997 = .ok (.iconst 1, 1) := by decide +kernel
theorem dL_law_998 : decode cL_law 998 = .ok (.iadd, 1) := by decide +kernel
theorem dL_law_999 : decode cL_law 999 = .ok (.iaload, 1) := by decide +kernel
theorem dL_law_1000 : decode cL_law 1000 = .ok (.aload_n 0, 1) := by decide +kernel
theorem dL_law_1001 : decode cL_law 1001 = .ok (.iload_n 3, 1) := by decide +kernel
theorem dL_law_1002 : decode cL_law 1002 = .ok (.iconst 2, 1) := by decide +kernel
theorem dL_law_1003 : decode cL_law 1003 = .ok (.iadd, 1) := by decide +kernel
theorem dL_law_1004 : decode cL_law 1004 = .ok (.iaload, 1) := by decide +kernel
theorem dL_law_1005 : decode cL_law 1005 = .ok (.aload_n 0, 1) := by decide +kernel
theorem dL_law_1006 : decode cL_law 1006 = .ok (.iload_n 3, 1) := by decide +kernel
theorem dL_law_1007 : decode cL_law 1007 = .ok (.iconst 3, 1) := by decide +kernel
theorem dL_law_1008 : decode cL_law 1008 = .ok (.iadd, 1) := by decide +kernel
theorem dL_law_1009 : decode cL_law 1009 = .ok (.iaload, 1) := by decide +kernel
theorem dL_law_1010 : decode cL_law 1010 = .ok (.invokevirtual 129, 3) := by decide +kernel
theorem dL_law_1013 : decode cL_law 1013 = .ok (.if_icmp .eq 518, 3) := by decide +kernel
theorem dL_law_1016 : decode cL_law 1016 = .ok (.iconst 0, 1) := by decide +kernel
theorem dL_law_1017 : decode cL_law 1017 = .ok (.ireturn, 1) := by decide +kernel
theorem dL_law_1018 : decode cL_law 1018 = .ok (.aload_n 1, 1) := by decide +kernel
theorem dL_law_1019 : decode cL_law 1019 = .ok (.aload_n 0, 1) := by decide +kernel
theorem dL_law_1020 : decode cL_law 1020 = .ok (.iload_n 3, 1) := by decide +kernel
theorem dL_law_1021 : decode cL_law 1021 = .ok (.iconst 1, 1) := by decide +kernel
theorem dL_law_1022 : decode cL_law 1022 = .ok (.iadd, 1) := by decide +kernel
theorem dL_law_1023 : decode cL_law 1023 = .ok (.iaload, 1) := by decide +kernel
theorem dL_law_1024 : decode cL_law 1024 = .ok (.aload_n 0, 1) := by decide +kernel
theorem dL_law_1025 : decode cL_law 1025 = .ok (.iload_n 3, 1) := by decide +kernel
theorem dL_law_1026 : decode cL_law 1026 = .ok (.iconst 2, 1) := by decide +kernel
theorem dL_law_1027 : decode cL_law 1027 = .ok (.iadd, 1) := by decide +kernel
theorem dL_law_1028 : decode cL_law 1028 = .ok (.iaload, 1) := by decide +kernel
theorem dL_law_1029 : decode cL_law 1029 = .ok (.invokevirtual 130, 3) := by decide +kernel
theorem dL_law_1032 : decode cL_law 1032 = .ok (.aload_n 2, 1) := by decide +kernel
theorem dL_law_1033 : decode cL_law 1033 = .ok (.aload_n 0, 1) := by decide +kernel
theorem dL_law_1034 : decode cL_law 1034 = .ok (.iload_n 3, 1) := by decide +kernel
theorem dL_law_1035 : decode cL_law 1035 = .ok (.iconst 1, 1) := by decide +kernel
theorem dL_law_1036 : decode cL_law 1036 = .ok (.iadd, 1) := by decide +kernel
theorem dL_law_1037 : decode cL_law 1037 = .ok (.iaload, 1) := by decide +kernel
theorem dL_law_1038 : decode cL_law 1038 = .ok (.aload_n 0, 1) := by decide +kernel
theorem dL_law_1039 : decode cL_law 1039 = .ok (.iload_n 3, 1) := by decide +kernel
theorem dL_law_1040 : decode cL_law 1040 = .ok (.iconst 2, 1) := by decide +kernel
theorem dL_law_1041 : decode cL_law 1041 = .ok (.iadd, 1) := by decide +kernel
theorem dL_law_1042 : decode cL_law 1042 = .ok (.iaload, 1) := by decide +kernel
theorem dL_law_1043 : decode cL_law 1043 = .ok (.invokevirtual 133, 3) := by decide +kernel
theorem dL_law_1046 : decode cL_law 1046 = .ok (.if_icmp .eq 485, 3) := by decide +kernel
theorem dL_law_1049 : decode cL_law 1049 = .ok (.iconst 0, 1) := by decide +kernel
theorem dL_law_1050 : decode cL_law 1050 = .ok (.ireturn, 1) := by decide +kernel
theorem dL_law_1051 : decode cL_law 1051 = .ok (.aload_n 1, 1) := by decide +kernel
theorem dL_law_1052 : decode cL_law 1052 = .ok (.invokevirtual 134, 3) := by decide +kernel
theorem dL_law_1055 : decode cL_law 1055 = .ok (.aload_n 2, 1) := by decide +kernel
theorem dL_law_1056 : decode cL_law 1056 = .ok (.invokevirtual 137, 3) := by decide +kernel
theorem dL_law_1059 : decode cL_law 1059 = .ok (.if_icmp .eq 472, 3) := by decide +kernel
theorem dL_law_1062 : decode cL_law 1062 = .ok (.iconst 0, 1) := by decide +kernel
theorem dL_law_1063 : decode cL_law 1063 = .ok (.ireturn, 1) := by decide +kernel
theorem dL_law_1064 : decode cL_law 1064 = .ok (.aload_n 1, 1) := by decide +kernel
theorem dL_law_1065 : decode cL_law 1065 = .ok (.aload_n 0, 1) := by decide +kernel
theorem dL_law_1066 : decode cL_law 1066 = .ok (.iload_n 3, 1) := by decide +kernel
theorem dL_law_1067 : decode cL_law 1067 = .ok (.iconst 1, 1) := by decide +kernel
theorem dL_law_1068 : decode cL_law 1068 = .ok (.iadd, 1) := by decide +kernel
theorem dL_law_1069 : decode cL_law 1069 = .ok (.iaload, 1) := by decide +kernel
theorem dL_law_1070 : decode cL_law 1070 = .ok (.invokevirtual 138, 3) := by decide +kernel
theorem dL_law_1073 : decode cL_law 1073 = .ok (.aload_n 2, 1) := by decide +kernel
theorem dL_law_1074 : decode cL_law 1074 = .ok (.aload_n 0, 1) := by decide +kernel
theorem dL_law_1075 : decode cL_law 1075 = .ok (.iload_n 3, 1) := by decide +kernel
theorem dL_law_1076 : decode cL_law 1076 = .ok (.iconst 1, 1) := by decide +kernel
theorem dL_law_1077 : decode cL_law 1077 = .ok (.iadd, 1) := by decide +kernel
theorem dL_law_1078 : decode cL_law 1078 = .ok (.iaload, 1) := by decide +kernel
theorem dL_law_1079 : decode cL_law 1079 = .ok (.invokevirtual 141, 3) := by decide +kernel
theorem dL_law_1082 : decode cL_law 1082 = .ok (.if_icmp .eq 449, 3) := by decide +kernel
theorem dL_law_1085 : decode cL_law 1085 = .ok (.iconst 0, 1) := by decide +kernel
theorem dL_law_1086 : decode cL_law 1086 = .ok (.ireturn, 1) := by decide +kernel
theorem dL_law_1087 : decode cL_law 1087 = .ok (.aload_n 1, 1) := by decide +kernel
theorem dL_law_1088 : decode cL_law 1088 = .ok (.invokevirtual 142, 3) := by decide +kernel
theorem dL_law_1091 : decode cL_law 1091 = .ok (.aload_n 2, 1) := by decide +kernel
theorem dL_law_1092 : decode cL_law 1092 = .ok (.invokevirtual 145, 3) := by decide +kernel
theorem dL_law_1095 : decode cL_law 1095 = .ok (.if_icmp .eq 436, 3) := by decide +kernel
theorem dL_law_1098 : decode cL_law 1098 = .ok (.iconst 0, 1) := by decide +kernel
theorem dL_law_1099 : decode cL_law 1099 = .ok (.ireturn, 1) := by decide +kernel
theorem dL_law_1100 : decode cL_law 1100 = .ok (.aload_n 1, 1) := by decide +kernel
theorem dL_law_1101 : decode cL_law 1101 = .ok (.aload_n 0, 1) := by decide +kernel
theorem dL_law_1102 : decode cL_law 1102 = .ok (.iload_n 3, 1) := by decide +kernel
theorem dL_law_1103 : decode cL_law 1103 = .ok (.iconst 1, 1) := by decide +kernel
theorem dL_law_1104 : decode cL_law 1104 = .ok (.iadd, 1) := by decide +kernel
theorem dL_law_1105 : decode cL_law 1105 = .ok (.iaload, 1) := by decide +kernel
theorem dL_law_1106 : decode cL_law 1106 = .ok (.invokevirtual 146, 3) := by decide +kernel
theorem dL_law_1109 : decode cL_law 1109 = .ok (.aload_n 2, 1) := by decide +kernel
theorem dL_law_1110 : decode cL_law 1110 = .ok (.aload_n 0, 1) := by decide +kernel
theorem dL_law_1111 : decode cL_law 1111 = .ok (.iload_n 3, 1) := by decide +kernel
theorem dL_law_1112 : decode cL_law 1112 = .ok (.iconst 1, 1) := by decide +kernel
theorem dL_law_1113 : decode cL_law 1113 = .ok (.iadd, 1) := by decide +kernel
theorem dL_law_1114 : decode cL_law 1114 = .ok (.iaload, 1) := by decide +kernel
theorem dL_law_1115 : decode cL_law 1115 = .ok (.invokevirtual 149, 3) := by decide +kernel
theorem dL_law_1118 : decode cL_law 1118 = .ok (.if_icmp .eq 413, 3) := by decide +kernel
theorem dL_law_1121 : decode cL_law 1121 = .ok (.iconst 0, 1) := by decide +kernel
theorem dL_law_1122 : decode cL_law 1122 = .ok (.ireturn, 1) := by decide +kernel
theorem dL_law_1123 : decode cL_law 1123 = .ok (.aload_n 1, 1) := by decide +kernel
theorem dL_law_1124 : decode cL_law 1124 = .ok (.aload_n 0, 1) := by decide +kernel
theorem dL_law_1125 : decode cL_law 1125 = .ok (.iload_n 3, 1) := by decide +kernel
theorem dL_law_1126 : decode cL_law 1126 = .ok (.iconst 1, 1) := by decide +kernel
theorem dL_law_1127 : decode cL_law 1127 = .ok (.iadd, 1) := by decide +kernel
theorem dL_law_1128 : decode cL_law 1128 = .ok (.iaload, 1) := by decide +kernel
theorem dL_law_1129 : decode cL_law 1129 = .ok (.aload_n 0, 1) := by decide +kernel
theorem dL_law_1130 : decode cL_law 1130 = .ok (.iload_n 3, 1) := by decide +kernel
theorem dL_law_1131 : decode cL_law 1131 = .ok (.iconst 2, 1) := by decide +kernel
theorem dL_law_1132 : decode cL_law 1132 = .ok (.iadd, 1) := by decide +kernel
theorem dL_law_1133 : decode cL_law 1133 = .ok (.iaload, 1) := by decide +kernel
theorem dL_law_1134 : decode cL_law 1134 = .ok (.invokevirtual 150, 3) := by decide +kernel
theorem dL_law_1137 : decode cL_law 1137 = .ok (.aload_n 2, 1) := by decide +kernel
theorem dL_law_1138 : decode cL_law 1138 = .ok (.aload_n 0, 1) := by decide +kernel
theorem dL_law_1139 : decode cL_law 1139 = .ok (.iload_n 3, 1) := by decide +kernel
theorem dL_law_1140 : decode cL_law 1140 = .ok (.iconst 1, 1) := by decide +kernel
theorem dL_law_1141 : decode cL_law 1141 = .ok (.iadd, 1) := by decide +kernel
theorem dL_law_1142 : decode cL_law 1142 = .ok (.iaload, 1) := by decide +kernel
theorem dL_law_1143 : decode cL_law 1143 = .ok (.aload_n 0, 1) := by decide +kernel
theorem dL_law_1144 : decode cL_law 1144 = .ok (.iload_n 3, 1) := by decide +kernel
theorem dL_law_1145 : decode cL_law 1145 = .ok (.iconst 2, 1) := by decide +kernel
theorem dL_law_1146 : decode cL_law 1146 = .ok (.iadd, 1) := by decide +kernel
theorem dL_law_1147 : decode cL_law 1147 = .ok (.iaload, 1) := by decide +kernel
theorem dL_law_1148 : decode cL_law 1148 = .ok (.invokevirtual 153, 3) := by decide +kernel
theorem dL_law_1151 : decode cL_law 1151 = .ok (.if_icmp .eq 380, 3) := by decide +kernel
theorem dL_law_1154 : decode cL_law 1154 = .ok (.iconst 0, 1) := by decide +kernel
theorem dL_law_1155 : decode cL_law 1155 = .ok (.ireturn, 1) := by decide +kernel
theorem dL_law_1156 : decode cL_law 1156 = .ok (.aload_n 1, 1) := by decide +kernel
theorem dL_law_1157 : decode cL_law 1157 = .ok (.aload_n 0, 1) := by decide +kernel
theorem dL_law_1158 : decode cL_law 1158 = .ok (.iload_n 3, 1) := by decide +kernel
theorem dL_law_1159 : decode cL_law 1159 = .ok (.iconst 1, 1) := by decide +kernel
theorem dL_law_1160 : decode cL_law 1160 = .ok (.iadd, 1) := by decide +kernel
theorem dL_law_1161 : decode cL_law 1161 = .ok (.iaload, 1) := by decide +kernel
theorem dL_law_1162 : decode cL_law 1162 = .ok (.aload_n 0, 1) := by decide +kernel
theorem dL_law_1163 : decode cL_law 1163 = .ok (.iload_n 3, 1) := by decide +kernel
theorem dL_law_1164 : decode cL_law 1164 = .ok (.iconst 2, 1) := by decide +kernel
theorem dL_law_1165 : decode cL_law 1165 = .ok (.iadd, 1) := by decide +kernel
theorem dL_law_1166 : decode cL_law 1166 = .ok (.iaload, 1) := by decide +kernel
theorem dL_law_1167 : decode cL_law 1167 = .ok (.invokevirtual 154, 3) := by decide +kernel
theorem dL_law_1170 : decode cL_law 1170 = .ok (.aload_n 2, 1) := by decide +kernel
theorem dL_law_1171 : decode cL_law 1171 = .ok (.aload_n 0, 1) := by decide +kernel
theorem dL_law_1172 : decode cL_law 1172 = .ok (.iload_n 3, 1) := by decide +kernel
theorem dL_law_1173 : decode cL_law 1173 = .ok (.iconst 1, 1) := by decide +kernel
theorem dL_law_1174 : decode cL_law 1174 = .ok (.iadd, 1) := by decide +kernel
theorem dL_law_1175 : decode cL_law 1175 = .ok (.iaload, 1) := by decide +kernel
theorem dL_law_1176 : decode cL_law 1176 = .ok (.aload_n 0, 1) := by decide +kernel
theorem dL_law_1177 : decode cL_law 1177 = .ok (.iload_n 3, 1) := by decide +kernel
theorem dL_law_1178 : decode cL_law 1178 = .ok (.iconst 2, 1) := by decide +kernel
theorem dL_law_1179 : decode cL_law 1179 = .ok (.iadd, 1) := by decide +kernel
theorem dL_law_1180 : decode cL_law 1180 = .ok (.iaload, 1) := by decide +kernel
theorem dL_law_1181 : decode cL_law 1181 = .ok (.invokevirtual 157, 3) := by decide +kernel
theorem dL_law_1184 : decode cL_law 1184 = .ok (.if_icmp .eq 347, 3) := by decide +kernel
theorem dL_law_1187 : decode cL_law 1187 = .ok (.iconst 0, 1) := by decide +kernel
theorem dL_law_1188 : decode cL_law 1188 = .ok (.ireturn, 1) := by decide +kernel
theorem dL_law_1189 : decode cL_law 1189 = .ok (.aload_n 1, 1) := by decide +kernel
theorem dL_law_1190 : decode cL_law 1190 = .ok (.aload_n 0, 1) := by decide +kernel
theorem dL_law_1191 : decode cL_law 1191 = .ok (.iload_n 3, 1) := by decide +kernel
theorem dL_law_1192 : decode cL_law 1192 = .ok (.iconst 1, 1) := by decide +kernel
theorem dL_law_1193 : decode cL_law 1193 = .ok (.iadd, 1) := by decide +kernel
theorem dL_law_1194 : decode cL_law 1194 = .ok (.iaload, 1) := by decide +kernel
theorem dL_law_1195 : decode cL_law 1195 = .ok (.invokevirtual 158, 3) := by decide +kernel
theorem dL_law_1198 : decode cL_law 1198 = .ok (.aload_n 2, 1) := by decide +kernel
theorem dL_law_1199 : decode cL_law 1199 = .ok (.aload_n 0, 1) := by decide +kernel
theorem dL_law_1200 : decode cL_law 1200 = .ok (.iload_n 3, 1) := by decide +kernel
theorem dL_law_1201 : decode cL_law 1201 = .ok (.iconst 1, 1) := by decide +kernel
theorem dL_law_1202 : decode cL_law 1202 = .ok (.iadd, 1) := by decide +kernel
theorem dL_law_1203 : decode cL_law 1203 = .ok (.iaload, 1) := by decide +kernel
theorem dL_law_1204 : decode cL_law 1204 = .ok (.invokevirtual 161, 3) := by decide +kernel
theorem dL_law_1207 : decode cL_law 1207 = .ok (.if_icmp .eq 324, 3) := by decide +kernel
theorem dL_law_1210 : decode cL_law 1210 = .ok (.iconst 0, 1) := by decide +kernel
theorem dL_law_1211 : decode cL_law 1211 = .ok (.ireturn, 1) := by decide +kernel
theorem dL_law_1212 : decode cL_law 1212 = .ok (.aload_n 1, 1) := by decide +kernel
theorem dL_law_1213 : decode cL_law 1213 = .ok (.invokevirtual 162, 3) := by decide +kernel
theorem dL_law_1216 : decode cL_law 1216 = .ok (.aload_n 2, 1) := by decide +kernel
theorem dL_law_1217 : decode cL_law 1217 = .ok (.invokevirtual 165, 3) := by decide +kernel
theorem dL_law_1220 : decode cL_law 1220 = .ok (.if_icmp .eq 311, 3) := by decide +kernel
theorem dL_law_1223 : decode cL_law 1223 = .ok (.iconst 0, 1) := by decide +kernel
theorem dL_law_1224 : decode cL_law 1224 = .ok (.ireturn, 1) := by decide +kernel
theorem dL_law_1225 : decode cL_law 1225 = .ok (.aload_n 1, 1) := by decide +kernel
theorem dL_law_1226 : decode cL_law 1226 = .ok (.invokevirtual 166, 3) := by decide +kernel
theorem dL_law_1229 : decode cL_law 1229 = .ok (.aload_n 2, 1) := by decide +kernel
theorem dL_law_1230 : decode cL_law 1230 = .ok (.invokevirtual 169, 3) := by decide +kernel
theorem dL_law_1233 : decode cL_law 1233 = .ok (.if_icmp .eq 298, 3) := by decide +kernel
theorem dL_law_1236 : decode cL_law 1236 = .ok (.iconst 0, 1) := by decide +kernel
theorem dL_law_1237 : decode cL_law 1237 = .ok (.ireturn, 1) := by decide +kernel
theorem dL_law_1238 : decode cL_law 1238 = .ok (.aload_n 1, 1) := by decide +kernel
theorem dL_law_1239 : decode cL_law 1239 = .ok (.aload_n 0, 1) := by decide +kernel
theorem dL_law_1240 : decode cL_law 1240 = .ok (.iload_n 3, 1) := by decide +kernel
theorem dL_law_1241 : decode cL_law 1241 = .ok (.iconst 1, 1) := by decide +kernel
theorem dL_law_1242 : decode cL_law 1242 = .ok (.iadd, 1) := by decide +kernel
theorem dL_law_1243 : decode cL_law 1243 = .ok (.iaload, 1) := by decide +kernel
theorem dL_law_1244 : decode cL_law 1244 = .ok (.aload_n 0, 1) := by decide +kernel
theorem dL_law_1245 : decode cL_law 1245 = .ok (.iload_n 3, 1) := by decide +kernel
theorem dL_law_1246 : decode cL_law 1246 = .ok (.iconst 2, 1) := by decide +kernel
theorem dL_law_1247 : decode cL_law 1247 = .ok (.iadd, 1) := by decide +kernel
theorem dL_law_1248 : decode cL_law 1248 = .ok (.iaload, 1) := by decide +kernel
theorem dL_law_1249 : decode cL_law 1249 = .ok (.invokevirtual 170, 3) := by decide +kernel
theorem dL_law_1252 : decode cL_law 1252 = .ok (.aload_n 2, 1) := by decide +kernel
theorem dL_law_1253 : decode cL_law 1253 = .ok (.aload_n 0, 1) := by decide +kernel
theorem dL_law_1254 : decode cL_law 1254 = .ok (.iload_n 3, 1) := by decide +kernel
theorem dL_law_1255 : decode cL_law 1255 = .ok (.iconst 1, 1) := by decide +kernel
theorem dL_law_1256 : decode cL_law 1256 = .ok (.iadd, 1) := by decide +kernel
theorem dL_law_1257 : decode cL_law 1257 = .ok (.iaload, 1) := by decide +kernel
theorem dL_law_1258 : decode cL_law 1258 = .ok (.aload_n 0, 1) := by decide +kernel
theorem dL_law_1259 : decode cL_law 1259 = .ok (.iload_n 3, 1) := by decide +kernel
theorem dL_law_1260 : decode cL_law 1260 = .ok (.iconst 2, 1) := by decide +kernel
theorem dL_law_1261 : decode cL_law 1261 = .ok (.iadd, 1) := by decide +kernel
theorem dL_law_1262 : decode cL_law 1262 = .ok (.iaload, 1) := by decide +kernel
theorem dL_law_1263 : decode cL_law 1263 = .ok (.invokevirtual 173, 3) := by decide +kernel
theorem dL_law_1266 : decode cL_law 1266 = .ok (.if_icmp .eq 265, 3) := by decide +kernel
theorem dL_law_1269 : decode cL_law 1269 = .ok (.iconst 0, 1) := by decide +kernel
theorem dL_law_1270 : decode cL_law 1270 = .ok (.ireturn, 1) := by decide +kernel
theorem dL_law_1271 : decode cL_law 1271 = .ok (.aload_n 1, 1) := by decide +kernel
theorem dL_law_1272 : decode cL_law 1272 = .ok (.aload_n 0, 1) := by decide +kernel
theorem dL_law_1273 : decode cL_law 1273 = .ok (.iload_n 3, 1) := by decide +kernel
theorem dL_law_1274 : decode cL_law 1274 = .ok (.iconst 1, 1) := by decide +kernel
theorem dL_law_1275 : decode cL_law 1275 = .ok (.iadd, 1) := by decide +kernel
theorem dL_law_1276 : decode cL_law 1276 = .ok (.iaload, 1) := by decide +kernel
theorem dL_law_1277 : decode cL_law 1277 = .ok (.invokevirtual 174, 3) := by decide +kernel
theorem dL_law_1280 : decode cL_law 1280 = .ok (.aload_n 2, 1) := by decide +kernel
theorem dL_law_1281 : decode cL_law 1281 = .ok (.aload_n 0, 1) := by decide +kernel
theorem dL_law_1282 : decode cL_law 1282 = .ok (.iload_n 3, 1) := by decide +kernel
theorem dL_law_1283 : decode cL_law 1283 = .ok (.iconst 1, 1) := by decide +kernel
theorem dL_law_1284 : decode cL_law 1284 = .ok (.iadd, 1) := by decide +kernel
theorem dL_law_1285 : decode cL_law 1285 = .ok (.iaload, 1) := by decide +kernel
theorem dL_law_1286 : decode cL_law 1286 = .ok (.invokevirtual 177, 3) := by decide +kernel
theorem dL_law_1289 : decode cL_law 1289 = .ok (.if_icmp .eq 242, 3) := by decide +kernel
theorem dL_law_1292 : decode cL_law 1292 = .ok (.iconst 0, 1) := by decide +kernel
theorem dL_law_1293 : decode cL_law 1293 = .ok (.ireturn, 1) := by decide +kernel
theorem dL_law_1294 : decode cL_law 1294 = .ok (.aload_n 1, 1) := by decide +kernel
theorem dL_law_1295 : decode cL_law 1295 = .ok (.aload_n 0, 1) := by decide +kernel
theorem dL_law_1296 : decode cL_law 1296 = .ok (.iload_n 3, 1) := by decide +kernel
theorem dL_law_1297 : decode cL_law 1297 = .ok (.iconst 1, 1) := by decide +kernel
theorem dL_law_1298 : decode cL_law 1298 = .ok (.iadd, 1) := by decide +kernel
theorem dL_law_1299 : decode cL_law 1299 = .ok (.iaload, 1) := by decide +kernel
theorem dL_law_1300 : decode cL_law 1300 = .ok (.aload_n 0, 1) := by decide +kernel
theorem dL_law_1301 : decode cL_law 1301 = .ok (.iload_n 3, 1) := by decide +kernel
theorem dL_law_1302 : decode cL_law 1302 = .ok (.iconst 2, 1) := by decide +kernel
theorem dL_law_1303 : decode cL_law 1303 = .ok (.iadd, 1) := by decide +kernel
theorem dL_law_1304 : decode cL_law 1304 = .ok (.iaload, 1) := by decide +kernel
theorem dL_law_1305 : decode cL_law 1305 = .ok (.invokevirtual 178, 3) := by decide +kernel
theorem dL_law_1308 : decode cL_law 1308 = .ok (.aload_n 2, 1) := by decide +kernel
theorem dL_law_1309 : decode cL_law 1309 = .ok (.aload_n 0, 1) := by decide +kernel
theorem dL_law_1310 : decode cL_law 1310 = .ok (.iload_n 3, 1) := by decide +kernel
theorem dL_law_1311 : decode cL_law 1311 = .ok (.iconst 1, 1) := by decide +kernel
theorem dL_law_1312 : decode cL_law 1312 = .ok (.iadd, 1) := by decide +kernel
theorem dL_law_1313 : decode cL_law 1313 = .ok (.iaload, 1) := by decide +kernel
theorem dL_law_1314 : decode cL_law 1314 = .ok (.aload_n 0, 1) := by decide +kernel
theorem dL_law_1315 : decode cL_law 1315 = .ok (.iload_n 3, 1) := by decide +kernel
theorem dL_law_1316 : decode cL_law 1316 = .ok (.iconst 2, 1) := by decide +kernel
theorem dL_law_1317 : decode cL_law 1317 = .ok (.iadd, 1) := by decide +kernel
theorem dL_law_1318 : decode cL_law 1318 = .ok (.iaload, 1) := by decide +kernel
theorem dL_law_1319 : decode cL_law 1319 = .ok (.invokevirtual 181, 3) := by decide +kernel
theorem dL_law_1322 : decode cL_law 1322 = .ok (.if_icmp .eq 209, 3) := by decide +kernel
theorem dL_law_1325 : decode cL_law 1325 = .ok (.iconst 0, 1) := by decide +kernel
theorem dL_law_1326 : decode cL_law 1326 = .ok (.ireturn, 1) := by decide +kernel
theorem dL_law_1327 : decode cL_law 1327 = .ok (.aload_n 1, 1) := by decide +kernel
theorem dL_law_1328 : decode cL_law 1328 = .ok (.aload_n 0, 1) := by decide +kernel
theorem dL_law_1329 : decode cL_law 1329 = .ok (.iload_n 3, 1) := by decide +kernel
theorem dL_law_1330 : decode cL_law 1330 = .ok (.iconst 1, 1) := by decide +kernel
theorem dL_law_1331 : decode cL_law 1331 = .ok (.iadd, 1) := by decide +kernel
theorem dL_law_1332 : decode cL_law 1332 = .ok (.iaload, 1) := by decide +kernel
theorem dL_law_1333 : decode cL_law 1333 = .ok (.aload_n 0, 1) := by decide +kernel
theorem dL_law_1334 : decode cL_law 1334 = .ok (.iload_n 3, 1) := by decide +kernel
theorem dL_law_1335 : decode cL_law 1335 = .ok (.iconst 2, 1) := by decide +kernel
theorem dL_law_1336 : decode cL_law 1336 = .ok (.iadd, 1) := by decide +kernel
theorem dL_law_1337 : decode cL_law 1337 = .ok (.iaload, 1) := by decide +kernel
theorem dL_law_1338 : decode cL_law 1338 = .ok (.aload_n 0, 1) := by decide +kernel
theorem dL_law_1339 : decode cL_law 1339 = .ok (.iload_n 3, 1) := by decide +kernel
theorem dL_law_1340 : decode cL_law 1340 = .ok (.iconst 3, 1) := by decide +kernel
theorem dL_law_1341 : decode cL_law 1341 = .ok (.iadd, 1) := by decide +kernel
theorem dL_law_1342 : decode cL_law 1342 = .ok (.iaload, 1) := by decide +kernel
theorem dL_law_1343 : decode cL_law 1343 = .ok (.invokevirtual 182, 3) := by decide +kernel
theorem dL_law_1346 : decode cL_law 1346 = .ok (.aload_n 2, 1) := by decide +kernel
theorem dL_law_1347 : decode cL_law 1347 = .ok (.aload_n 0, 1) := by decide +kernel
theorem dL_law_1348 : decode cL_law 1348 = .ok (.iload_n 3, 1) := by decide +kernel
theorem dL_law_1349 : decode cL_law 1349 = .ok (.iconst 1, 1) := by decide +kernel
theorem dL_law_1350 : decode cL_law 1350 = .ok (.iadd, 1) := by decide +kernel
theorem dL_law_1351 : decode cL_law 1351 = .ok (.iaload, 1) := by decide +kernel
theorem dL_law_1352 : decode cL_law 1352 = .ok (.aload_n 0, 1) := by decide +kernel
theorem dL_law_1353 : decode cL_law 1353 = .ok (.iload_n 3, 1) := by decide +kernel
theorem dL_law_1354 : decode cL_law 1354 = .ok (.iconst 2, 1) := by decide +kernel
theorem dL_law_1355 : decode cL_law 1355 = .ok (.iadd, 1) := by decide +kernel
theorem dL_law_1356 : decode cL_law 1356 = .ok (.iaload, 1) := by decide +kernel
theorem dL_law_1357 : decode cL_law 1357 = .ok (.aload_n 0, 1) := by decide +kernel
theorem dL_law_1358 : decode cL_law 1358 = .ok (.iload_n 3, 1) := by decide +kernel
theorem dL_law_1359 : decode cL_law 1359 = .ok (.iconst 3, 1) := by decide +kernel
theorem dL_law_1360 : decode cL_law 1360 = .ok (.iadd, 1) := by decide +kernel
theorem dL_law_1361 : decode cL_law 1361 = .ok (.iaload, 1) := by decide +kernel
theorem dL_law_1362 : decode cL_law 1362 = .ok (.invokevirtual 185, 3) := by decide +kernel
theorem dL_law_1365 : decode cL_law 1365 = .ok (.if_icmp .eq 166, 3) := by decide +kernel
theorem dL_law_1368 : decode cL_law 1368 = .ok (.iconst 0, 1) := by decide +kernel
theorem dL_law_1369 : decode cL_law 1369 = .ok (.ireturn, 1) := by decide +kernel
theorem dL_law_1370 : decode cL_law 1370 = .ok (.aload_n 1, 1) := by decide +kernel
theorem dL_law_1371 : decode cL_law 1371 = .ok (.aload_n 0, 1) := by decide +kernel
theorem dL_law_1372 : decode cL_law 1372 = .ok (.iload_n 3, 1) := by decide +kernel
theorem dL_law_1373 : decode cL_law 1373 = .ok (.iconst 1, 1) := by decide +kernel
theorem dL_law_1374 : decode cL_law 1374 = .ok (.iadd, 1) := by decide +kernel
theorem dL_law_1375 : decode cL_law 1375 = .ok (.iaload, 1) := by decide +kernel
theorem dL_law_1376 : decode cL_law 1376 = .ok (.aload_n 0, 1) := by decide +kernel
theorem dL_law_1377 : decode cL_law 1377 = .ok (.iload_n 3, 1) := by decide +kernel
theorem dL_law_1378 : decode cL_law 1378 = .ok (.iconst 2, 1) := by decide +kernel
theorem dL_law_1379 : decode cL_law 1379 = .ok (.iadd, 1) := by decide +kernel
theorem dL_law_1380 : decode cL_law 1380 = .ok (.iaload, 1) := by decide +kernel
theorem dL_law_1381 : decode cL_law 1381 = .ok (.invokevirtual 186, 3) := by decide +kernel
theorem dL_law_1384 : decode cL_law 1384 = .ok (.aload_n 2, 1) := by decide +kernel
theorem dL_law_1385 : decode cL_law 1385 = .ok (.aload_n 0, 1) := by decide +kernel
theorem dL_law_1386 : decode cL_law 1386 = .ok (.iload_n 3, 1) := by decide +kernel
theorem dL_law_1387 : decode cL_law 1387 = .ok (.iconst 1, 1) := by decide +kernel
theorem dL_law_1388 : decode cL_law 1388 = .ok (.iadd, 1) := by decide +kernel
theorem dL_law_1389 : decode cL_law 1389 = .ok (.iaload, 1) := by decide +kernel
theorem dL_law_1390 : decode cL_law 1390 = .ok (.aload_n 0, 1) := by decide +kernel
theorem dL_law_1391 : decode cL_law 1391 = .ok (.iload_n 3, 1) := by decide +kernel
theorem dL_law_1392 : decode cL_law 1392 = .ok (.iconst 2, 1) := by decide +kernel
theorem dL_law_1393 : decode cL_law 1393 = .ok (.iadd, 1) := by decide +kernel
theorem dL_law_1394 : decode cL_law 1394 = .ok (.iaload, 1) := by decide +kernel
theorem dL_law_1395 : decode cL_law 1395 = .ok (.invokevirtual 189, 3) := by decide +kernel
theorem dL_law_1398 : decode cL_law 1398 = .ok (.if_icmp .eq 133, 3) := by decide +kernel
theorem dL_law_1401 : decode cL_law 1401 = .ok (.iconst 0, 1) := by decide +kernel
theorem dL_law_1402 : decode cL_law 1402 = .ok (.ireturn, 1) := by decide +kernel
theorem dL_law_1403 : decode cL_law 1403 = .ok (.aload_n 1, 1) := by decide +kernel
theorem dL_law_1404 : decode cL_law 1404 = .ok (.aload_n 0, 1) := by decide +kernel
theorem dL_law_1405 : decode cL_law 1405 = .ok (.iload_n 3, 1) := by decide +kernel
theorem dL_law_1406 : decode cL_law 1406 = .ok (.iconst 1, 1) := by decide +kernel
theorem dL_law_1407 : decode cL_law 1407 = .ok (.iadd, 1) := by decide +kernel
theorem dL_law_1408 : decode cL_law 1408 = .ok (.iaload, 1) := by decide +kernel
theorem dL_law_1409 : decode cL_law 1409 = .ok (.invokevirtual 190, 3) := by decide +kernel
theorem dL_law_1412 : decode cL_law 1412 = .ok (.aload_n 2, 1) := by decide +kernel
theorem dL_law_1413 : decode cL_law 1413 = .ok (.aload_n 0, 1) := by decide +kernel
theorem dL_law_1414 : decode cL_law 1414 = .ok (.iload_n 3, 1) := by decide +kernel
theorem dL_law_1415 : decode cL_law 1415 = .ok (.iconst 1, 1) := by decide +kernel
theorem dL_law_1416 : decode cL_law 1416 = .ok (.iadd, 1) := by decide +kernel
theorem dL_law_1417 : decode cL_law 1417 = .ok (.iaload, 1) := by decide +kernel
theorem dL_law_1418 : decode cL_law 1418 = .ok (.invokevirtual 193, 3) := by decide +kernel
theorem dL_law_1421 : decode cL_law 1421 = .ok (.if_icmp .eq 110, 3) := by decide +kernel
theorem dL_law_1424 : decode cL_law 1424 = .ok (.iconst 0, 1) := by decide +kernel
theorem dL_law_1425 : decode cL_law 1425 = .ok (.ireturn, 1) := by decide +kernel
theorem dL_law_1426 : decode cL_law 1426 = .ok (.aload_n 1, 1) := by decide +kernel
theorem dL_law_1427 : decode cL_law 1427 = .ok (.aload_n 0, 1) := by decide +kernel
theorem dL_law_1428 : decode cL_law 1428 = .ok (.iload_n 3, 1) := by decide +kernel
theorem dL_law_1429 : decode cL_law 1429 = .ok (.iconst 1, 1) := by decide +kernel
theorem dL_law_1430 : decode cL_law 1430 = .ok (.iadd, 1) := by decide +kernel
theorem dL_law_1431 : decode cL_law 1431 = .ok (.iaload, 1) := by decide +kernel
theorem dL_law_1432 : decode cL_law 1432 = .ok (.invokevirtual 194, 3) := by decide +kernel
theorem dL_law_1435 : decode cL_law 1435 = .ok (.aload_n 2, 1) := by decide +kernel
theorem dL_law_1436 : decode cL_law 1436 = .ok (.aload_n 0, 1) := by decide +kernel
theorem dL_law_1437 : decode cL_law 1437 = .ok (.iload_n 3, 1) := by decide +kernel
theorem dL_law_1438 : decode cL_law 1438 = .ok (.iconst 1, 1) := by decide +kernel
theorem dL_law_1439 : decode cL_law 1439 = .ok (.iadd, 1) := by decide +kernel
theorem dL_law_1440 : decode cL_law 1440 = .ok (.iaload, 1) := by decide +kernel
theorem dL_law_1441 : decode cL_law 1441 = .ok (.invokevirtual 197, 3) := by decide +kernel
theorem dL_law_1444 : decode cL_law 1444 = .ok (.if_icmp .eq 87, 3) := by decide +kernel
theorem dL_law_1447 : decode cL_law 1447 = .ok (.iconst 0, 1) := by decide +kernel
theorem dL_law_1448 : decode cL_law 1448 = .ok (.ireturn, 1) := by decide +kernel
theorem dL_law_1449 : decode cL_law 1449 = .ok (.aload_n 1, 1) := by decide +kernel
theorem dL_law_1450 : decode cL_law 1450 = .ok (.aload_n 0, 1) := by decide +kernel
theorem dL_law_1451 : decode cL_law 1451 = .ok (.iload_n 3, 1) := by decide +kernel
theorem dL_law_1452 : decode cL_law 1452 = .ok (.iconst 1, 1) := by decide +kernel
theorem dL_law_1453 : decode cL_law 1453 = .ok (.iadd, 1) := by decide +kernel
theorem dL_law_1454 : decode cL_law 1454 = .ok (.iaload, 1) := by decide +kernel
theorem dL_law_1455 : decode cL_law 1455 = .ok (.invokevirtual 198, 3) := by decide +kernel
theorem dL_law_1458 : decode cL_law 1458 = .ok (.aload_n 2, 1) := by decide +kernel
theorem dL_law_1459 : decode cL_law 1459 = .ok (.aload_n 0, 1) := by decide +kernel
theorem dL_law_1460 : decode cL_law 1460 = .ok (.iload_n 3, 1) := by decide +kernel
theorem dL_law_1461 : decode cL_law 1461 = .ok (.iconst 1, 1) := by decide +kernel
theorem dL_law_1462 : decode cL_law 1462 = .ok (.iadd, 1) := by decide +kernel
theorem dL_law_1463 : decode cL_law 1463 = .ok (.iaload, 1) := by decide +kernel
theorem dL_law_1464 : decode cL_law 1464 = .ok (.invokevirtual 201, 3) := by decide +kernel
theorem dL_law_1467 : decode cL_law 1467 = .ok (.if_icmp .eq 64, 3) := by decide +kernel
theorem dL_law_1470 : decode cL_law 1470 = .ok (.iconst 0, 1) := by decide +kernel
theorem dL_law_1471 : decode cL_law 1471 = .ok (.ireturn, 1) := by decide +kernel
theorem dL_law_1472 : decode cL_law 1472 = .ok (.aload_n 1, 1) := by decide +kernel
theorem dL_law_1473 : decode cL_law 1473 = .ok (.aload_n 0, 1) := by decide +kernel
theorem dL_law_1474 : decode cL_law 1474 = .ok (.iload_n 3, 1) := by decide +kernel
theorem dL_law_1475 : decode cL_law 1475 = .ok (.iconst 1, 1) := by decide +kernel
theorem dL_law_1476 : decode cL_law 1476 = .ok (.iadd, 1) := by decide +kernel
theorem dL_law_1477 : decode cL_law 1477 = .ok (.iaload, 1) := by decide +kernel
theorem dL_law_1478 : decode cL_law 1478 = .ok (.aload_n 0, 1) := by decide +kernel
theorem dL_law_1479 : decode cL_law 1479 = .ok (.iload_n 3, 1) := by decide +kernel
theorem dL_law_1480 : decode cL_law 1480 = .ok (.iconst 2, 1) := by decide +kernel
theorem dL_law_1481 : decode cL_law 1481 = .ok (.iadd, 1) := by decide +kernel
theorem dL_law_1482 : decode cL_law 1482 = .ok (.iaload, 1) := by decide +kernel
theorem dL_law_1483 : decode cL_law 1483 = .ok (.invokevirtual 202, 3) := by decide +kernel
theorem dL_law_1486 : decode cL_law 1486 = .ok (.aload_n 2, 1) := by decide +kernel
theorem dL_law_1487 : decode cL_law 1487 = .ok (.aload_n 0, 1) := by decide +kernel
theorem dL_law_1488 : decode cL_law 1488 = .ok (.iload_n 3, 1) := by decide +kernel
theorem dL_law_1489 : decode cL_law 1489 = .ok (.iconst 1, 1) := by decide +kernel
theorem dL_law_1490 : decode cL_law 1490 = .ok (.iadd, 1) := by decide +kernel
theorem dL_law_1491 : decode cL_law 1491 = .ok (.iaload, 1) := by decide +kernel
theorem dL_law_1492 : decode cL_law 1492 = .ok (.aload_n 0, 1) := by decide +kernel
theorem dL_law_1493 : decode cL_law 1493 = .ok (.iload_n 3, 1) := by decide +kernel
theorem dL_law_1494 : decode cL_law 1494 = .ok (.iconst 2, 1) := by decide +kernel
theorem dL_law_1495 : decode cL_law 1495 = .ok (.iadd, 1) := by decide +kernel
theorem dL_law_1496 : decode cL_law 1496 = .ok (.iaload, 1) := by decide +kernel
theorem dL_law_1497 : decode cL_law 1497 = .ok (.invokevirtual 205, 3) := by decide +kernel
theorem dL_law_1500 : decode cL_law 1500 = .ok (.if_icmp .eq 31, 3) := by decide +kernel
theorem dL_law_1503 : decode cL_law 1503 = .ok (.iconst 0, 1) := by decide +kernel
theorem dL_law_1504 : decode cL_law 1504 = .ok (.ireturn, 1) := by decide +kernel
theorem dL_law_1505 : decode cL_law 1505 = .ok (.aload_n 1, 1) := by decide +kernel
theorem dL_law_1506 : decode cL_law 1506 = .ok (.invokevirtual 206, 3) := by decide +kernel
theorem dL_law_1509 : decode cL_law 1509 = .ok (.aload_n 2, 1) := by decide +kernel
theorem dL_law_1510 : decode cL_law 1510 = .ok (.invokevirtual 209, 3) := by decide +kernel
theorem dL_law_1513 : decode cL_law 1513 = .ok (.if_icmp .eq 18, 3) := by decide +kernel
theorem dL_law_1516 : decode cL_law 1516 = .ok (.iconst 0, 1) := by decide +kernel
theorem dL_law_1517 : decode cL_law 1517 = .ok (.ireturn, 1) := by decide +kernel
theorem dL_law_1518 : decode cL_law 1518 = .ok (.aload_n 1, 1) := by decide +kernel
theorem dL_law_1519 : decode cL_law 1519 = .ok (.invokevirtual 210, 3) := by decide +kernel
theorem dL_law_1522 : decode cL_law 1522 = .ok (.aload_n 2, 1) := by decide +kernel
theorem dL_law_1523 : decode cL_law 1523 = .ok (.invokevirtual 213, 3) := by decide +kernel
theorem dL_law_1526 : decode cL_law 1526 = .ok (.if_icmp .eq 5, 3) := by decide +kernel
theorem dL_law_1529 : decode cL_law 1529 = .ok (.iconst 0, 1) := by decide +kernel
theorem dL_law_1530 : decode cL_law 1530 = .ok (.ireturn, 1) := by decide +kernel
theorem dL_law_1531 : decode cL_law 1531 = .ok (.iinc 3 5, 3) := by decide +kernel
theorem dL_law_1534 : decode cL_law 1534 = .ok (.goto (-1516), 3) := by decide +kernel
theorem dL_law_1537 : decode cL_law 1537 = .ok (.iconst 1, 1) := by decide +kernel
theorem dL_law_1538 : decode cL_law 1538 = .ok (.ireturn, 1) := by decide +kernel
end
section
/-! ===== a small machine of our own: ints are Ints (a sum out of range stops it), cells lie in a function, calls are pre-resolved ===== -/
abbrev zV : Type := Int ⊕ Option Nat
abbrev zR (z : Int) : Prop := -2147483648 ≤ z ∧ z ≤ 2147483647
abbrev zC : Type := (Nat × List zV) ⊕ ((Nat × Nat × (Nat → Int)) ⊕ (Nat × Nat × (Nat → Option Nat)))
abbrev zS : Type := Nat × Nat × (Nat → Option zC)
/-- a method: its bytes, locals, class number, constructor or not, frames below it, words of locals below it, name, what it returns -/
abbrev zM : Type := ByteArray × Nat × Nat × Bool × Nat × Nat × MethodName × Option FieldType
def zup (h : Nat → Option zC) (a : Nat) (e : zC) : Nat → Option zC := fun q => if q = a then some e else h q
def zfu {α : Type} (f : Nat → α) (k : Nat) (v : α) : Nat → α := fun j => if j = k then v else f j
def zcp {α : Type} (f g : Nat → α) (sp dp n : Nat) : Nat → α := fun j => if dp ≤ j ∧ j < dp + n then f (sp + (j - dp)) else g j
def zty : Nat → FieldType
  | 0 => .int
  | 1 => .byte
  | _ => .boolean
def zrt (t : Nat) : FieldType := if t = 99 then .array .int else .object ((vwCl.getD t (RX0, TX0, 0)).1)
/-- does a value fit a field or an array's place as it is -/
def zfit : FieldType → zV → Bool
  | .int, .inl _ => true
  | .byte, .inl z => decide (-128 ≤ z ∧ z ≤ 127)
  | .boolean, .inl z => decide (z = 0 ∨ z = 1)
  | .char, .inl z => decide (0 ≤ z ∧ z ≤ 65535)
  | .object _, .inr _ => true
  | .array _, .inr _ => true
  | _, _ => false
def zbit (o : Int32 → Int32 → Int32) (x y : Int) : Int := (o (Int32.ofInt x) (Int32.ofInt y)).toInt
def zcond : ClassFile.Cond → Int → Int → Bool
  | .eq, x, y => decide (x = y)
  | .ne, x, y => decide (x ≠ y)
  | .lt, x, y => decide (x < y)
  | .ge, x, y => decide (y ≤ x)
  | .gt, x, y => decide (y < x)
  | .le, x, y => decide (x ≤ y)
/-- instructions of locals, operands and numbers -/
def zA (ins : Instr) (len : Nat) (L : List (Option zV)) (st : List zV) : Option (List (Option zV) × List zV) :=
  match ins, len, st with
  | .aconst_null, 1, st => some (L, .inr none :: st)
  | .aload i, 2, st => match L[i]? with
    | some (some (.inr r)) => some (L, .inr r :: st)
    | _ => none
  | .aload_n i, 1, st => match L[i.val]? with
    | some (some (.inr r)) => some (L, .inr r :: st)
    | _ => none
  | .iload i, 2, st => match L[i]? with
    | some (some (.inl z)) => some (L, .inl z :: st)
    | _ => none
  | .iload_n i, 1, st => match L[i.val]? with
    | some (some (.inl z)) => some (L, .inl z :: st)
    | _ => none
  | .astore i, 2, .inr r :: st => if i < L.length then some (L.set i (some (.inr r)), st) else none
  | .astore_n i, 1, .inr r :: st => if i.val < L.length then some (L.set i.val (some (.inr r)), st) else none
  | .istore i, 2, .inl z :: st => if i < L.length then some (L.set i (some (.inl z)), st) else none
  | .istore_n i, 1, .inl z :: st => if i.val < L.length then some (L.set i.val (some (.inl z)), st) else none
  | .iconst n, 1, st => if zR n then some (L, .inl n :: st) else none
  | .bipush n, 2, st => if -128 ≤ n ∧ n ≤ 127 then some (L, .inl n :: st) else none
  | .sipush n, 3, st => if -32768 ≤ n ∧ n ≤ 32767 then some (L, .inl n :: st) else none
  | .dup, 1, v :: st => some (L, v :: v :: st)
  | .pop, 1, _ :: st => some (L, st)
  | .dup_x1, 1, v :: w :: st => some (L, v :: w :: v :: st)
  | .dup2, 1, v :: w :: st => some (L, v :: w :: v :: w :: st)
  | .iadd, 1, .inl y :: .inl x :: st => if zR (x + y) then some (L, .inl (x + y) :: st) else none
  | .isub, 1, .inl y :: .inl x :: st => if zR (x - y) then some (L, .inl (x - y) :: st) else none
  | .imul, 1, .inl y :: .inl x :: st => if zR (x * y) then some (L, .inl (x * y) :: st) else none
  | .idiv, 1, .inl y :: .inl x :: st => if y ≠ 0 ∧ zR (x.tdiv y) then some (L, .inl (x.tdiv y) :: st) else none
  | .irem, 1, .inl y :: .inl x :: st => if y ≠ 0 ∧ zR (x.tdiv y) then some (L, .inl (x.tmod y) :: st) else none
  | .ineg, 1, .inl x :: st => if zR (-x) then some (L, .inl (-x) :: st) else none
  | .iand, 1, .inl y :: .inl x :: st => some (L, .inl (zbit (fun a b => a &&& b) x y) :: st)
  | .ior, 1, .inl y :: .inl x :: st => some (L, .inl (zbit (fun a b => a ||| b) x y) :: st)
  | .ixor, 1, .inl y :: .inl x :: st => some (L, .inl (zbit (fun a b => a ^^^ b) x y) :: st)
  | .ishl, 1, .inl y :: .inl x :: st => some (L, .inl (zbit (fun a b => a <<< (b &&& 31)) x y) :: st)
  | .ishr, 1, .inl y :: .inl x :: st => some (L, .inl (zbit (fun a b => a >>> (b &&& 31)) x y) :: st)
  | .i2b, 1, .inl x :: st => if -128 ≤ x ∧ x ≤ 127 then some (L, .inl x :: st) else none
  | .i2c, 1, .inl x :: st => if 0 ≤ x ∧ x ≤ 65535 then some (L, .inl x :: st) else none
  | .iinc i n, 3, st => match L[i]? with
    | some (some (.inl z)) => if zR (z + n) then some (L.set i (some (.inl (z + n))), st) else none
    | _ => none
  | _, _, _ => none
def ztgt (pc : Nat) (off : Int) : Option Nat := if 0 ≤ (pc : Int) + off then some ((pc : Int) + off).toNat else none
/-- jumps -/
def zB (ins : Instr) (len : Nat) (pc : Nat) (st : List zV) : Option (Nat × List zV) :=
  match ins, len, st with
  | .goto off, 3, st => (ztgt pc off).map fun t => (t, st)
  | .ifCond c off, 3, .inl x :: st => (ztgt pc off).map fun t => (bif zcond c x 0 then t else pc + 3, st)
  | .if_icmp c off, 3, .inl y :: .inl x :: st => (ztgt pc off).map fun t => (bif zcond c x y then t else pc + 3, st)
  | .ifnull off, 3, .inr r :: st => (ztgt pc off).map fun t => (bif r.isNone then t else pc + 3, st)
  | .ifnonnull off, 3, .inr r :: st => (ztgt pc off).map fun t => (bif r.isSome then t else pc + 3, st)
  | .tableswitch d lo hi offs, _, .inl x :: st =>
    if x < lo ∨ hi < x then (ztgt pc d).map fun t => (t, st) else
    match offs[(x - lo).toNat]? with
    | some off => (ztgt pc off).map fun t => (t, st)
    | none => none
  | _, _, _ => none
/-- the tables of links: (class, entry) to what it names -/
abbrev zTf : Type := Nat → Nat → Option (Nat × Nat)
abbrev zTm : Type := Nat → Nat → Option (Nat × Nat × Nat × zM)
abbrev zTn : Type := Nat → Nat → Option Nat
abbrev zTc : Type := Nat → Nat → Option Int
/-- what a field starts with, by its type -/
def zdf : FieldType → zV
  | .object _ => .inr none
  | .array _ => .inr none
  | _ => .inl 0
/-- the types of a class's fields; which are final -/
def zfty (ci : Nat) : Nat → FieldType := (([tyJ4, tyX0, tyX1, tyX2, tyX3, tyX4, tyX5, tyX6, tyX7, tyX8, tyX9, tyX10] : List (Nat → FieldType)).getD ci tyX0)
def zcl (ci : Nat) : vw_C := vwCl.getD ci (RX0, TX0, 0)
def zfin (ci k : Nat) : Bool := ((zcl ci).2.1 k).2.2.2
/-- the classes' numbers: the class itself of a class that makes objects, else over 20 -/
def zcn (c : Nat) : String := if c < 12 then (zcl c).1 else ([RL, RJ0, RJ1, RJ2, RJ3, RJ5, RJ6, RJ7, RJ8, RJ9, RJ10] : List String).getD (c - 20) RL
def zat0 : ArrayType → Option Nat
  | .int => some 0
  | .byte => some 1
  | .boolean => some 2
  | _ => none
def zrows (h : Nat → Option zC) (n N K : Nat) : Nat → Option zC := fun q =>
  if q = n then some (.inr (.inr (99, N, fun i => if i < N then some (n + 1 + i) else none))) else if n < q ∧ q < n + 1 + N then some (.inr (.inl (0, K, fun _ => 0))) else h q
section ZD
variable (n0 : Nat) (g : Nat → zV) (tf : zTf) (ts tk : zTn) (tc : zTc)
/-- instructions that read and write the heap, or make cells -/
def zD (ins : Instr) (len : Nat) (M : zM) (st : List zV) (σ : zS) : Option (List zV × zS) :=
  match ins, len, st with
  | .ldc idx, 2, st => match tc M.2.2.1 idx with
    | some z => if zR z then some (.inl z :: st, σ) else none
    | none => none
  | .getstatic idx, 3, st => match ts M.2.2.1 idx with
    | some i => some (g i :: st, σ)
    | none => none
  | .getfield idx, 3, .inr (some a) :: st => match tf M.2.2.1 idx, σ.2.2 a with
    | some (ci, k), some (.inl (cj, fs)) => if ci = cj then match fs[k]? with
      | some v => some (v :: st, σ)
      | none => none else none
    | _, _ => none
  | .putfield idx, 3, v :: .inr (some a) :: st => match tf M.2.2.1 idx, σ.2.2 a with
    | some (ci, k), some (.inl (cj, fs)) => if ci = cj ∧ k < fs.length ∧ n0 ≤ a ∧ zfit (zfty ci k) v = true ∧ (zfin ci k = true → M.2.2.2.1 = true ∧ ((zcl ci).2.1 k).1 = zcn M.2.2.1) then some (st, (σ.1, σ.2.1, zup σ.2.2 a (.inl (cj, fs.set k v)))) else none
    | _, _ => none
  | .arraylength, 1, .inr (some a) :: st => match σ.2.2 a with
    | some (.inr (.inl (_, N, _))) => some (.inl (N : Int) :: st, σ)
    | some (.inr (.inr (_, N, _))) => some (.inl (N : Int) :: st, σ)
    | _ => none
  | .iaload, 1, .inl i :: .inr (some a) :: st => match σ.2.2 a with
    | some (.inr (.inl (t, N, f))) => if t = 0 ∧ 0 ≤ i ∧ i < (N : Int) then some (.inl (f i.toNat) :: st, σ) else none
    | _ => none
  | .baload, 1, .inl i :: .inr (some a) :: st => match σ.2.2 a with
    | some (.inr (.inl (t, N, f))) => if (t = 1 ∨ t = 2) ∧ 0 ≤ i ∧ i < (N : Int) then some (.inl (f i.toNat) :: st, σ) else none
    | _ => none
  | .aaload, 1, .inl i :: .inr (some a) :: st => match σ.2.2 a with
    | some (.inr (.inr (_, N, f))) => if 0 ≤ i ∧ i < (N : Int) then some (.inr (f i.toNat) :: st, σ) else none
    | _ => none
  | .iastore, 1, .inl x :: .inl i :: .inr (some a) :: st => match σ.2.2 a with
    | some (.inr (.inl (t, N, f))) => if t = 0 ∧ 0 ≤ i ∧ i < (N : Int) ∧ n0 ≤ a then some (st, (σ.1, σ.2.1, zup σ.2.2 a (.inr (.inl (t, N, zfu f i.toNat x))))) else none
    | _ => none
  | .bastore, 1, .inl x :: .inl i :: .inr (some a) :: st => match σ.2.2 a with
    | some (.inr (.inl (t, N, f))) => if (t = 1 ∨ t = 2) ∧ 0 ≤ i ∧ i < (N : Int) ∧ n0 ≤ a ∧ zfit (zty t) (.inl x) = true then some (st, (σ.1, σ.2.1, zup σ.2.2 a (.inr (.inl (t, N, zfu f i.toNat x))))) else none
    | _ => none
  | .aastore, 1, .inr (some b) :: .inl i :: .inr (some a) :: st => match σ.2.2 a, σ.2.2 b with
    | some (.inr (.inr (t, N, f))), some (.inl (cj, _)) => if t = cj ∧ t < 12 ∧ 0 ≤ i ∧ i < (N : Int) ∧ n0 ≤ a then some (st, (σ.1, σ.2.1, zup σ.2.2 a (.inr (.inr (t, N, zfu f i.toNat (some b)))))) else none
    | _, _ => none
  | .new idx, 3, st => match tk M.2.2.1 idx with
    | some ci => if ci < 12 then some (.inr (some σ.1) :: st, (σ.1 + 1, σ.2.1 + (zcl ci).2.2, zup σ.2.2 σ.1 (.inl (ci, (List.range (zcl ci).2.2).map fun k => zdf (zfty ci k))))) else none
    | none => none
  | .newarray ty, 2, .inl N :: st => match zat0 ty with
    | some t => if 0 ≤ N ∧ N ≤ 65536 then some (.inr (some σ.1) :: st, (σ.1 + 1, σ.2.1 + N.toNat, zup σ.2.2 σ.1 (.inr (.inl (t, N.toNat, fun _ => 0))))) else none
    | none => none
  | .anewarray idx, 3, .inl N :: st => match tk M.2.2.1 idx with
    | some ci => if ci < 12 ∧ 0 ≤ N ∧ N ≤ 65536 then some (.inr (some σ.1) :: st, (σ.1 + 1, σ.2.1 + N.toNat, zup σ.2.2 σ.1 (.inr (.inr (ci, N.toNat, fun _ => none))))) else none
    | none => none
  | .multianewarray idx 2, 4, .inl K :: .inl N :: st => match tk M.2.2.1 idx with
    | some 99 => if 0 ≤ N ∧ N ≤ 65536 ∧ 0 ≤ K ∧ K ≤ 65536 then some (.inr (some σ.1) :: st, (σ.1 + 1 + N.toNat, σ.2.1 + N.toNat + N.toNat * K.toNat, zrows σ.2.2 σ.1 N.toNat K.toNat)) else none
    | _ => none
  | _, _, _ => none
end ZD
/-- what an instruction asks for: go on; call a method with these arguments, then go on behind it with the rest; go back with an answer -/
abbrev zQq : Type := (Nat × List (Option zV) × List zV × zS) ⊕ (zM × List zV × List zV) ⊕ Option zV
def zretok : Option FieldType → Option zV → Bool
  | none, none => true
  | some ty, some v => zfit ty v
  | _, _ => false
/-- the room that a call takes of the caller's -/
def zroom (M M' : zM) : Bool := Nat.ble (M'.2.2.2.2.1 + 1) M.2.2.2.2.1 && Nat.ble (8 + (M'.2.1 + 11) + M'.2.2.2.2.2.1) M.2.2.2.2.2.1
section ZE
variable (n0 : Nat) (tm : zTm)
/-- calls and returns; the kinds of calls: 0 static, 1 virtual, 2 a constructor, 3 a nest mate's constructor, 4 inherited, 5 a superclass's, 6 Object's constructor, 7 arraycopy -/
def zE (ins : Instr) (len : Nat) (M : zM) (pc : Nat) (L : List (Option zV)) (st : List zV) (σ : zS) : Option zQq :=
  match ins, len, st with
  | .ireturn, 1, [.inl z] => if zretok M.2.2.2.2.2.2.2 (some (.inl z)) = true then some (.inr (.inr (some (.inl z)))) else none
  | .areturn, 1, [.inr r] => if zretok M.2.2.2.2.2.2.2 (some (.inr r)) = true then some (.inr (.inr (some (.inr r)))) else none
  | .return_, 1, [] => if M.2.2.2.2.2.2.2 = none then some (.inr (.inr none)) else none
  | .invokestatic idx, 3, st => match tm M.2.2.1 idx with
    | some (0, n, _, M') => if n ≤ st.length ∧ st.length ≤ n + 8 ∧ zroom M M' = true then some (.inr (.inl (M', (st.take n).reverse, st.drop n))) else none
    | some (7, _, _, _) => match st with
      | .inl n :: .inl dp :: .inr (some a) :: .inl sp :: .inr (some b) :: st => match σ.2.2 b, σ.2.2 a with
        | some (.inr (.inl (t0, N0, f))), some (.inr (.inl (t1, N1, g))) =>
          if t0 = t1 ∧ 0 ≤ sp ∧ 0 ≤ dp ∧ 0 ≤ n ∧ sp + n ≤ (N0 : Int) ∧ dp + n ≤ (N1 : Int) ∧ n0 ≤ a ∧ n0 ≤ b ∧ st.length ≤ 8 ∧ 1 ≤ M.2.2.2.2.1 ∧ 40 ≤ M.2.2.2.2.2.1 then some (.inl (pc + 3, L, st, (σ.1, σ.2.1, zup σ.2.2 a (.inr (.inl (t1, N1, zcp f g sp.toNat dp.toNat n.toNat)))))) else none
        | _, _ => none
      | _ => none
    | _ => none
  | .invokevirtual idx, 3, st => match tm M.2.2.1 idx with
    | some (k, n, ci, M') => match st.drop n with
      | .inr (some b) :: rest => match σ.2.2 b with
        | some (.inl (cj, _)) => if (k = 1 ∨ k = 4) ∧ ci = cj ∧ rest.length ≤ 8 ∧ zroom M M' = true then some (.inr (.inl (M', .inr (some b) :: (st.take n).reverse, rest))) else none
        | _ => none
      | _ => none
    | _ => none
  | .invokespecial idx, 3, st => match tm M.2.2.1 idx with
    | some (k, n, ci, M') => match st.drop n with
      | .inr (some b) :: rest =>
        if k = 6 then (if n = 0 ∧ rest.length ≤ 8 ∧ 1 ≤ M.2.2.2.2.1 ∧ 20 ≤ M.2.2.2.2.2.1 then some (.inl (pc + 3, L, rest, σ)) else none) else
        if k = 2 ∨ k = 3 then (if rest.length ≤ 8 ∧ zroom M M' = true then some (.inr (.inl (M', .inr (some b) :: (st.take n).reverse, rest))) else none) else
        match σ.2.2 b with
        | some (.inl (cj, _)) => if k = 5 ∧ ci = cj ∧ rest.length ≤ 8 ∧ zroom M M' = true then some (.inr (.inl (M', .inr (some b) :: (st.take n).reverse, rest))) else none
        | _ => none
      | _ => none
    | _ => none
  | _, _, _ => none
end ZE
section ZRUN
variable (n0 : Nat) (g : Nat → zV) (tf : zTf) (ts tk : zTn) (tc : zTc) (tm : zTm)
def zstep (ins : Instr) (len : Nat) (M : zM) (pc : Nat) (L : List (Option zV)) (st : List zV) (σ : zS) : Option zQq :=
  match zA ins len L st with
  | some (L', st') => some (.inl (pc + len, L', st', σ))
  | none => match zB ins len pc st with
    | some (pc', st') => some (.inl (pc', L, st', σ))
    | none => match zD n0 g tf ts tk tc ins len M st σ with
      | some (st', σ') => some (.inl (pc + len, L, st', σ'))
      | none => zE n0 tm ins len M pc L st σ
/-- a method's locals at its entry -/
def zloc (M : zM) (as : List zV) : List (Option zV) := as.map some ++ List.replicate (M.2.1 - as.length) none
def zrun : Nat → zM → Nat → List (Option zV) → List zV → zS → Option (Option zV × zS)
  | 0, _, _, _, _, _ => none
  | f + 1, M, pc, L, st, σ => match decode M.1 pc with
    | .ok (ins, len) => match zstep n0 g tf ts tk tc tm ins len M pc L st σ with
      | some (.inl (pc', L', st', σ')) => zrun f M pc' L' st' σ'
      | some (.inr (.inl (M', as, rest))) => if as.length ≤ M'.2.1 then match zrun f M' 0 (zloc M' as) [] σ with
        | some (v, σ') => zrun f M (pc + 3) L (v.toList ++ rest) σ'
        | none => none else none
      | some (.inr (.inr v)) => some (v, σ)
      | none => none
    | .error _ => none
end ZRUN
end
section
/-! ===== the methods that the law reaches, and what their instructions name: printed by wip/whole/mktables.py ===== -/
def mJmax : zM := (Lib.Math.max.code, 2, 29, false, 0, 0, Lib.Math.max.name, some .int)
def mJmin : zM := (Lib.Math.min.code, 2, 29, false, 0, 0, Lib.Math.min.name, some .int)
def mX5_init : zM := (cX5_init, 1, 6, true, 1, 20, yX5_init, none)
def mX6_init : zM := (cX6_init, 1, 7, true, 1, 20, yX6_init, none)
def mX1_init : zM := (cX1_init, 2, 2, true, 1, 20, yX1_init, none)
def mX4_init : zM := (cX4_init, 1, 5, true, 1, 20, yX4_init, none)
def mX0_init : zM := (cX0_init, 1, 1, true, 1, 20, yX0_init, none)
def mX7_init : zM := (cX7_init, 2, 8, true, 2, 40, yX7_init, none)
def mX2_init : zM := (cX2_init, 1, 3, true, 1, 20, yX2_init, none)
def mX3_init : zM := (cX3_init, 1, 4, true, 1, 20, yX3_init, none)
def mJ5_init_d00df : zM := (cJ5_init_d00df, 2, 25, true, 1, 20, yJ5_init_d00df, none)
def mJ4_init_da8c8 : zM := (cJ4_init_da8c8, 1, 0, true, 2, 41, yJ4_init_da8c8, none)
def mX8_init : zM := (cX8_init, 1, 9, true, 1, 20, yX8_init, none)
def mX9_init : zM := (cX9_init, 2, 10, true, 3, 61, yX9_init, none)
def mX10_init : zM := (cX10_init, 1, 11, true, 1, 20, yX10_init, none)
def mX9_isAllowedPrime : zM := (cX9_isAllowedPrime, 5, 10, false, 0, 0, yX9_isAllowedPrime, (some .boolean))
def mX5_restart : zM := (cX5_restart, 2, 6, false, 0, 0, yX5_restart, none)
def mJ7_fill_53178 : zM := (cJ7_fill_53178, 4, 27, false, 0, 0, yJ7_fill_53178, none)
def mX6_clear : zM := (cX6_clear, 1, 7, false, 1, 23, yX6_clear, none)
def mX2_forget : zM := (cX2_forget, 1, 3, false, 0, 0, yX2_forget, none)
def mX9_setPrime : zM := (cX9_setPrime, 3, 10, false, 2, 43, yX9_setPrime, (some .int))
def mX10_isIn : zM := (cX10_isIn, 3, 11, false, 0, 0, yX10_isIn, (some .boolean))
def mX10_isPrime : zM := (cX10_isPrime, 3, 11, false, 0, 0, yX10_isPrime, (some .boolean))
def mX10_clearCurrent : zM := (cX10_clearCurrent, 2, 11, false, 0, 0, yX10_clearCurrent, none)
def mX10_setPrime : zM := (cX10_setPrime, 3, 11, false, 1, 22, yX10_setPrime, (some .int))
def mX9_prime : zM := (cX9_prime, 1, 10, false, 0, 0, yX9_prime, (some .int))
def mX10_prime : zM := (cX10_prime, 1, 11, false, 0, 0, yX10_prime, (some .int))
def mX5_isResidue : zM := (cX5_isResidue, 2, 6, false, 0, 0, yX5_isResidue, (some .boolean))
def mX5_holds : zM := (cX5_holds, 4, 6, false, 0, 0, yX5_holds, (some .boolean))
def mX5_append : zM := (cX5_append, 3, 6, false, 0, 0, yX5_append, none)
def mX9_addPoint : zM := (cX9_addPoint, 3, 10, false, 1, 23, yX9_addPoint, (some .int))
def mX10_addPoint : zM := (cX10_addPoint, 4, 11, false, 1, 22, yX10_addPoint, (some .int))
def mX5_hasIndex : zM := (cX5_hasIndex, 2, 6, false, 0, 0, yX5_hasIndex, (some .boolean))
def mX5_remove : zM := (cX5_remove, 3, 6, false, 0, 0, yX5_remove, none)
def mX9_removePoint : zM := (cX9_removePoint, 2, 10, false, 1, 22, yX9_removePoint, (some .int))
def mX10_isPoint : zM := (cX10_isPoint, 2, 11, false, 1, 22, yX10_isPoint, (some .boolean))
def mX10_removePoint : zM := (cX10_removePoint, 3, 11, false, 2, 43, yX10_removePoint, (some .int))
def mX9_pointCount : zM := (cX9_pointCount, 1, 10, false, 0, 0, yX9_pointCount, (some .int))
def mX10_pointCount : zM := (cX10_pointCount, 1, 11, false, 0, 0, yX10_pointCount, (some .int))
def mX9_pointX : zM := (cX9_pointX, 2, 10, false, 1, 21, yX9_pointX, (some .int))
def mX10_pointX : zM := (cX10_pointX, 2, 11, false, 2, 43, yX10_pointX, (some .int))
def mX9_pointY : zM := (cX9_pointY, 2, 10, false, 1, 21, yX9_pointY, (some .int))
def mX10_pointY : zM := (cX10_pointY, 2, 11, false, 2, 43, yX10_pointY, (some .int))
def mX5_isSymmetric : zM := (cX5_isSymmetric, 2, 6, false, 1, 23, yX5_isSymmetric, (some .boolean))
def mX5_mirror : zM := (cX5_mirror, 3, 6, false, 0, 0, yX5_mirror, none)
def mX9_swapCoordinates : zM := (cX9_swapCoordinates, 2, 10, false, 2, 44, yX9_swapCoordinates, (some .int))
def mX10_swapCoordinates : zM := (cX10_swapCoordinates, 5, 11, false, 0, 0, yX10_swapCoordinates, (some .int))
def mX5_transform : zM := (cX5_transform, 6, 6, false, 0, 0, yX5_transform, none)
def mX9_translate : zM := (cX9_translate, 3, 10, false, 1, 25, yX9_translate, (some .int))
def mX10_translate : zM := (cX10_translate, 4, 11, false, 1, 22, yX10_translate, (some .int))
def mX9_scale : zM := (cX9_scale, 3, 10, false, 1, 25, yX9_scale, (some .int))
def mX10_scale : zM := (cX10_scale, 4, 11, false, 1, 22, yX10_scale, (some .int))
def mX9_isExponent : zM := (cX9_isExponent, 1, 10, false, 0, 0, yX9_isExponent, (some .boolean))
def mX9_isWeight : zM := (cX9_isWeight, 2, 10, false, 0, 0, yX9_isWeight, (some .boolean))
def mX9_isOrder : zM := (cX9_isOrder, 3, 10, false, 1, 21, yX9_isOrder, (some .boolean))
def mX4_choose : zM := (cX4_choose, 4, 5, false, 0, 0, yX4_choose, none)
def mX1_restart : zM := (cX1_restart, 1, 2, false, 0, 0, yX1_restart, none)
def mX7_isClosed : zM := (cX7_isClosed, 4, 8, false, 0, 0, yX7_isClosed, (some .boolean))
def mX7_topOf : zM := (cX7_topOf, 2, 8, false, 0, 0, yX7_topOf, (some .int))
def mX4_weightOf : zM := (cX4_weightOf, 2, 5, false, 0, 0, yX4_weightOf, (some .int))
def mX4_isSmaller : zM := (cX4_isSmaller, 5, 5, false, 1, 21, yX4_isSmaller, (some .boolean))
def mX7_nextColumn : zM := (cX7_nextColumn, 4, 8, false, 2, 45, yX7_nextColumn, (some .int))
def mX5_power : zM := (cX5_power, 5, 6, false, 0, 0, yX5_power, (some .int))
def mX5_monomialAt : zM := (cX5_monomialAt, 3, 6, false, 1, 24, yX5_monomialAt, (some .int))
def mX1_addMultiple : zM := (cX1_addMultiple, 5, 2, false, 0, 0, yX1_addMultiple, none)
def mX1_reduceValues : zM := (cX1_reduceValues, 3, 2, false, 1, 24, yX1_reduceValues, none)
def mX1_firstNonzeroValue : zM := (cX1_firstNonzeroValue, 2, 2, false, 0, 0, yX1_firstNonzeroValue, (some .int))
def mX5_inverse : zM := (cX5_inverse, 3, 6, false, 0, 0, yX5_inverse, (some .int))
def mX1_keepValues : zM := (cX1_keepValues, 6, 2, false, 1, 22, yX1_keepValues, none)
def mX1_keepIfIndependent : zM := (cX1_keepIfIndependent, 3, 2, false, 2, 47, yX1_keepIfIndependent, (some .boolean))
def mX0_insertTerm : zM := (cX0_insertTerm, 5, 1, false, 0, 0, yX0_insertTerm, none)
def mX0_take : zM := (cX0_take, 5, 1, false, 1, 24, yX0_take, none)
def mX7_insertCorner : zM := (cX7_insertCorner, 6, 8, false, 2, 48, yX7_insertCorner, none)
def mX7_hasWall : zM := (cX7_hasWall, 1, 8, false, 0, 0, yX7_hasWall, (some .boolean))
def mX7_lowerWall : zM := (cX7_lowerWall, 7, 8, false, 1, 20, yX7_lowerWall, none)
def mX7_findWall : zM := (cX7_findWall, 2, 8, false, 2, 46, yX7_findWall, none)
def mX7_compute : zM := (cX7_compute, 6, 8, false, 3, 73, yX7_compute, none)
def mX9_computeOrder : zM := (cX9_computeOrder, 4, 10, false, 4, 98, yX9_computeOrder, none)
def mX9_columnHeight : zM := (cX9_columnHeight, 5, 10, false, 5, 121, yX9_columnHeight, (some .int))
def mX10_isExponent : zM := (cX10_isExponent, 1, 11, false, 1, 22, yX10_isExponent, (some .boolean))
def mX10_isWeight : zM := (cX10_isWeight, 2, 11, false, 1, 22, yX10_isWeight, (some .boolean))
def mX10_isGreater : zM := (cX10_isGreater, 10, 11, false, 0, 0, yX10_isGreater, (some .boolean))
def mX10_sort : zM := (cX10_sort, 6, 11, false, 1, 29, yX10_sort, none)
def mX10_power : zM := (cX10_power, 5, 11, false, 0, 0, yX10_power, (some .int))
def mJ9_floorMod_7cf53 : zM := (cJ9_floorMod_7cf53, 3, 29, false, 0, 0, yJ9_floorMod_7cf53, (some .int))
def mX10_reduce : zM := (cX10_reduce, 5, 11, false, 1, 24, yX10_reduce, (some .int))
def mX10_inverse : zM := (cX10_inverse, 3, 11, false, 0, 0, yX10_inverse, (some .int))
def mX10_becomesStandard : zM := (cX10_becomesStandard, 5, 11, false, 1, 22, yX10_becomesStandard, none)
def mX10_isCorner : zM := (cX10_isCorner, 2, 11, false, 0, 0, yX10_isCorner, (some .boolean))
def mX10_becomesCorner : zM := (cX10_becomesCorner, 3, 11, false, 1, 22, yX10_becomesCorner, none)
def mX10_sortCorners : zM := (cX10_sortCorners, 6, 11, false, 0, 0, yX10_sortCorners, none)
def mX10_compute : zM := (cX10_compute, 6, 11, false, 2, 54, yX10_compute, none)
def mX10_columnHeight : zM := (cX10_columnHeight, 5, 11, false, 3, 79, yX10_columnHeight, (some .int))
def mX9_cornerCount : zM := (cX9_cornerCount, 4, 10, false, 5, 121, yX9_cornerCount, (some .int))
def mX10_cornerCount : zM := (cX10_cornerCount, 4, 11, false, 3, 79, yX10_cornerCount, (some .int))
def mX7_find : zM := (cX7_find, 2, 8, false, 0, 0, yX7_find, (some (.object "GroebnerFan$BasisPolynomial")))
def mX9_decimalExponents : zM := (cX9_decimalExponents, 1, 10, false, 0, 0, yX9_decimalExponents, (some .int))
def mX9_corner : zM := (cX9_corner, 6, 10, false, 5, 121, yX9_corner, (some .int))
def mX10_exponents : zM := (cX10_exponents, 1, 11, false, 0, 0, yX10_exponents, (some .int))
def mX10_corner : zM := (cX10_corner, 5, 11, false, 3, 79, yX10_corner, (some .int))
def mX2_build : zM := (cX2_build, 5, 3, false, 4, 98, yX2_build, none)
def mX9_refreshFan : zM := (cX9_refreshFan, 1, 10, false, 5, 122, yX9_refreshFan, none)
def mX9_coneCount : zM := (cX9_coneCount, 1, 10, false, 6, 142, yX9_coneCount, (some .int))
def mX10_divisor : zM := (cX10_divisor, 5, 11, false, 0, 0, yX10_divisor, (some .int))
def mX10_wall : zM := (cX10_wall, 8, 11, false, 1, 24, yX10_wall, none)
def mX10_keep : zM := (cX10_keep, 4, 11, false, 2, 51, yX10_keep, none)
def mX10_fan : zM := (cX10_fan, 4, 11, false, 3, 79, yX10_fan, none)
def mX10_coneCount : zM := (cX10_coneCount, 1, 11, false, 4, 102, yX10_coneCount, (some .int))
def mX2_find : zM := (cX2_find, 2, 3, false, 0, 0, yX2_find, (some (.object "GroebnerFan$ReducedBasis")))
def mX9_findCone : zM := (cX9_findCone, 2, 10, false, 6, 142, yX9_findCone, (some (.object "GroebnerFan$ReducedBasis")))
def mX9_wallNumerator : zM := (cX9_wallNumerator, 3, 10, false, 7, 163, yX9_wallNumerator, (some .int))
def mX10_isCone : zM := (cX10_isCone, 2, 11, false, 4, 102, yX10_isCone, (some .boolean))
def mX10_wallNumerator : zM := (cX10_wallNumerator, 2, 11, false, 5, 123, yX10_wallNumerator, (some .int))
def mX9_wallDenominator : zM := (cX9_wallDenominator, 3, 10, false, 7, 163, yX9_wallDenominator, (some .int))
def mX10_wallDenominator : zM := (cX10_wallDenominator, 2, 11, false, 5, 123, yX10_wallDenominator, (some .int))
def mX7_hasAboveWall : zM := (cX7_hasAboveWall, 3, 8, false, 1, 20, yX7_hasAboveWall, (some .boolean))
def mX2_firstWithin : zM := (cX2_firstWithin, 4, 3, false, 2, 42, yX2_firstWithin, (some .int))
def mX9_firstConeContaining : zM := (cX9_firstConeContaining, 3, 10, false, 6, 142, yX9_firstConeContaining, (some .int))
def mX10_contains : zM := (cX10_contains, 6, 11, false, 0, 0, yX10_contains, (some .boolean))
def mX10_firstConeContaining : zM := (cX10_firstConeContaining, 4, 11, false, 4, 102, yX10_firstConeContaining, (some .int))
def mX7_hasOnWall : zM := (cX7_hasOnWall, 3, 8, false, 1, 20, yX7_hasOnWall, (some .boolean))
def mX9_conesContaining : zM := (cX9_conesContaining, 4, 10, false, 6, 142, yX9_conesContaining, (some .int))
def mX10_conesContaining : zM := (cX10_conesContaining, 5, 11, false, 4, 102, yX10_conesContaining, (some .int))
def mX9_coneHeight : zM := (cX9_coneHeight, 4, 10, false, 7, 163, yX9_coneHeight, (some .int))
def mX10_coneHeight : zM := (cX10_coneHeight, 3, 11, false, 5, 123, yX10_coneHeight, (some .int))
def mX9_basisSize : zM := (cX9_basisSize, 3, 10, false, 7, 163, yX9_basisSize, (some .int))
def mX10_basisSize : zM := (cX10_basisSize, 2, 11, false, 5, 123, yX10_basisSize, (some .int))
def mX9_findBasisPolynomial : zM := (cX9_findBasisPolynomial, 4, 10, false, 7, 163, yX9_findBasisPolynomial, (some (.object "GroebnerFan$BasisPolynomial")))
def mX9_basisCorner : zM := (cX9_basisCorner, 4, 10, false, 8, 186, yX9_basisCorner, (some .int))
def mX10_isBasis : zM := (cX10_isBasis, 3, 11, false, 5, 123, yX10_isBasis, (some .boolean))
def mX10_basisCorner : zM := (cX10_basisCorner, 3, 11, false, 6, 145, yX10_basisCorner, (some .int))
def mX0_factorOf : zM := (cX0_factorOf, 3, 1, false, 0, 0, yX0_factorOf, (some .int))
def mX9_basisCoefficient : zM := (cX9_basisCoefficient, 6, 10, false, 8, 186, yX9_basisCoefficient, (some .int))
def mX10_cell : zM := (cX10_cell, 4, 11, false, 0, 0, yX10_cell, (some .int))
def mX10_basisCoefficient : zM := (cX10_basisCoefficient, 6, 11, false, 6, 145, yX10_basisCoefficient, (some .int))
def mX7_hasCorner : zM := (cX7_hasCorner, 3, 8, false, 0, 0, yX7_hasCorner, (some .boolean))
def mX7_countCornersOutside : zM := (cX7_countCornersOutside, 4, 8, false, 1, 22, yX7_countCornersOutside, (some .int))
def mX9_changedCorners : zM := (cX9_changedCorners, 4, 10, false, 7, 163, yX9_changedCorners, (some .int))
def mX10_changedCorners : zM := (cX10_changedCorners, 6, 11, false, 5, 123, yX10_changedCorners, (some .int))
def mX0_hasTermsOf : zM := (cX0_hasTermsOf, 3, 1, false, 0, 0, yX0_hasTermsOf, (some .boolean))
def mX7_holdsTermsOf : zM := (cX7_holdsTermsOf, 3, 8, false, 1, 22, yX7_holdsTermsOf, (some .boolean))
def mX2_isBefore : zM := (cX2_isBefore, 4, 3, false, 2, 44, yX2_isBefore, (some .boolean))
def mX2_countDistinctPolynomials : zM := (cX2_countDistinctPolynomials, 5, 3, false, 3, 67, yX2_countDistinctPolynomials, (some .int))
def mX9_universalSize : zM := (cX9_universalSize, 1, 10, false, 6, 142, yX9_universalSize, (some .int))
def mX10_isSame : zM := (cX10_isSame, 7, 11, false, 1, 23, yX10_isSame, (some .boolean))
def mX10_isNew : zM := (cX10_isNew, 6, 11, false, 2, 49, yX10_isNew, (some .boolean))
def mX10_universalSize : zM := (cX10_universalSize, 4, 11, false, 4, 102, yX10_universalSize, (some .int))
def mX0_degree : zM := (cX0_degree, 3, 1, false, 1, 21, yX0_degree, (some .int))
def mX2_greatestDegree : zM := (cX2_greatestDegree, 5, 3, false, 2, 43, yX2_greatestDegree, (some .int))
def mX9_universalDegree : zM := (cX9_universalDegree, 1, 10, false, 6, 142, yX9_universalDegree, (some .int))
def mX10_universalDegree : zM := (cX10_universalDegree, 5, 11, false, 4, 102, yX10_universalDegree, (some .int))
def mX7_rowLength : zM := (cX7_rowLength, 7, 8, false, 0, 0, yX7_rowLength, (some .int))
def mX7_isMirrorOf : zM := (cX7_isMirrorOf, 3, 8, false, 1, 26, yX7_isMirrorOf, (some .boolean))
def mX2_firstMirrorOf : zM := (cX2_firstMirrorOf, 3, 3, false, 2, 48, yX2_firstMirrorOf, (some .int))
def mX9_mirroredCone : zM := (cX9_mirroredCone, 4, 10, false, 7, 163, yX9_mirroredCone, (some .int))
def mX10_isMirrored : zM := (cX10_isMirrored, 6, 11, false, 0, 0, yX10_isMirrored, (some .boolean))
def mX10_mirroredCone : zM := (cX10_mirroredCone, 3, 11, false, 5, 123, yX10_mirroredCone, (some .int))
def mX7_standardDegree : zM := (cX7_standardDegree, 3, 8, false, 1, 21, yX7_standardDegree, (some .int))
def mX2_firstFlattest : zM := (cX2_firstFlattest, 3, 3, false, 2, 43, yX2_firstFlattest, (some .int))
def mX9_flattestCone : zM := (cX9_flattestCone, 1, 10, false, 6, 142, yX9_flattestCone, (some .int))
def mX10_steepness : zM := (cX10_steepness, 5, 11, false, 1, 21, yX10_steepness, (some .int))
def mX10_flattestCone : zM := (cX10_flattestCone, 3, 11, false, 4, 102, yX10_flattestCone, (some .int))
def mX5_residue : zM := (cX5_residue, 2, 6, false, 1, 22, yX5_residue, (some .int))
def mX9_setCoefficient : zM := (cX9_setCoefficient, 6, 10, false, 2, 43, yX9_setCoefficient, (some .int))
def mX10_setCoefficient : zM := (cX10_setCoefficient, 5, 11, false, 2, 42, yX10_setCoefficient, (some .int))
def mX9_coefficient : zM := (cX9_coefficient, 3, 10, false, 1, 20, yX9_coefficient, (some .int))
def mX10_coefficient : zM := (cX10_coefficient, 3, 11, false, 2, 42, yX10_coefficient, (some .int))
def mX6_countTerms : zM := (cX6_countTerms, 6, 7, false, 0, 0, yX6_countTerms, (some .int))
def mX9_termCount : zM := (cX9_termCount, 1, 10, false, 1, 25, yX9_termCount, (some .int))
def mX10_termCount : zM := (cX10_termCount, 3, 11, false, 0, 0, yX10_termCount, (some .int))
def mX6_valueAt : zM := (cX6_valueAt, 7, 7, false, 0, 0, yX6_valueAt, (some .int))
def mX9_evaluate : zM := (cX9_evaluate, 2, 10, false, 1, 26, yX9_evaluate, (some .int))
def mX10_valueAt : zM := (cX10_valueAt, 4, 11, false, 1, 24, yX10_valueAt, (some .int))
def mX10_evaluate : zM := (cX10_evaluate, 2, 11, false, 2, 47, yX10_evaluate, (some .int))
def mX9_isVanishing : zM := (cX9_isVanishing, 2, 10, false, 1, 26, yX9_isVanishing, (some .int))
def mX10_isVanishing : zM := (cX10_isVanishing, 3, 11, false, 2, 47, yX10_isVanishing, (some .int))
def mX1_keepStandardMonomials : zM := (cX1_keepStandardMonomials, 4, 2, false, 3, 69, yX1_keepStandardMonomials, none)
def mX9_replaceByInterpolation : zM := (cX9_replaceByInterpolation, 2, 10, false, 2, 46, yX9_replaceByInterpolation, (some .int))
def mX9_reduceToNormalForm : zM := (cX9_reduceToNormalForm, 4, 10, false, 7, 163, yX9_reduceToNormalForm, (some .int))
def mX10_setUp : zM := (cX10_setUp, 5, 11, false, 1, 24, yX10_setUp, none)
def mX10_exchange : zM := (cX10_exchange, 5, 11, false, 0, 0, yX10_exchange, none)
def mX10_solve : zM := (cX10_solve, 8, 11, false, 2, 48, yX10_solve, (some .int))
def mX10_reduceToNormalForm : zM := (cX10_reduceToNormalForm, 3, 11, false, 5, 123, yX10_reduceToNormalForm, (some .int))
def mX9_findSlot : zM := (cX9_findSlot, 2, 10, false, 0, 0, yX9_findSlot, (some (.object "GroebnerFan$Slot")))
def mX8_errorForArrays : zM := (cX8_errorForArrays, 1, 9, false, 0, 0, yX8_errorForArrays, (some .int))
def mX9_interpolate : zM := (cX9_interpolate, 6, 10, false, 7, 163, yX9_interpolate, (some .int))
def mX10_isSlot : zM := (cX10_isSlot, 1, 11, false, 1, 22, yX10_isSlot, (some .boolean))
def mX10_interpolate : zM := (cX10_interpolate, 4, 11, false, 5, 123, yX10_interpolate, (some .int))
def mX9_loadBasisPolynomial : zM := (cX9_loadBasisPolynomial, 5, 10, false, 8, 186, yX9_loadBasisPolynomial, (some .int))
def mX10_loadBasisPolynomial : zM := (cX10_loadBasisPolynomial, 4, 11, false, 6, 145, yX10_loadBasisPolynomial, (some .int))
def mX3_append : zM := (cX3_append, 2, 4, false, 0, 0, yX3_append, none)
def mX9_appendInput : zM := (cX9_appendInput, 2, 10, false, 1, 21, yX9_appendInput, (some .int))
def mX10_appendInput : zM := (cX10_appendInput, 2, 11, false, 1, 22, yX10_appendInput, (some .int))
def mX9_inputLength : zM := (cX9_inputLength, 1, 10, false, 0, 0, yX9_inputLength, (some .int))
def mX10_inputLength : zM := (cX10_inputLength, 1, 11, false, 0, 0, yX10_inputLength, (some .int))
def mX3_isDigit : zM := (cX3_isDigit, 1, 4, false, 0, 0, yX3_isDigit, (some .boolean))
def mX3_signBehindNumber : zM := (cX3_signBehindNumber, 1, 4, false, 0, 0, yX3_signBehindNumber, (some .int))
def mX3_appendNumber : zM := (cX3_appendNumber, 2, 4, false, 0, 0, yX3_appendNumber, none)
def mX3_readNumbers : zM := (cX3_readNumbers, 5, 4, false, 1, 21, yX3_readNumbers, (some .int))
def mX9_parsePoints : zM := (cX9_parsePoints, 4, 10, false, 2, 45, yX9_parsePoints, (some .int))
def mX10_isAt : zM := (cX10_isAt, 3, 11, false, 1, 22, yX10_isAt, (some .boolean))
def mX10_takesNumber : zM := (cX10_takesNumber, 1, 11, false, 2, 44, yX10_takesNumber, (some .boolean))
def mX10_takesPoint : zM := (cX10_takesPoint, 3, 11, false, 3, 64, yX10_takesPoint, (some .int))
def mX10_takesList : zM := (cX10_takesList, 5, 11, false, 4, 86, yX10_takesList, (some .int))
def mX10_parsePoints : zM := (cX10_parsePoints, 1, 11, false, 5, 110, yX10_parsePoints, (some .int))
def mJ8_newLength_cabcc : zM := (cJ8_newLength_cabcc, 4, 28, false, 1, 21, yJ8_newLength_cabcc, (some .int))
def mJ5_newCapacity_0f7a4 : zM := (cJ5_newCapacity_0f7a4, 6, 25, false, 2, 44, yJ5_newCapacity_0f7a4, (some .int))
def mJ7_copyOf_9075b : zM := (cJ7_copyOf_9075b, 3, 27, false, 1, 40, yJ7_copyOf_9075b, (some (.array .byte)))
def mJ5_ensureCapacityInternal_d00df : zM := (cJ5_ensureCapacityInternal_d00df, 3, 25, false, 3, 69, yJ5_ensureCapacityInternal_d00df, none)
def mJ5_isLatin1_aae02 : zM := (cJ5_isLatin1_aae02, 1, 25, false, 0, 0, yJ5_isLatin1_aae02, (some .boolean))
def mJ5_setLength_d00df : zM := (cJ5_setLength_d00df, 2, 25, false, 4, 91, yJ5_setLength_d00df, none)
def mJ4_setLength_d00df : zM := (cJ4_setLength_d00df, 2, 0, false, 5, 112, yJ4_setLength_d00df, none)
def mJ6_stringSize_0f7a4 : zM := (cJ6_stringSize_0f7a4, 4, 26, false, 0, 0, yJ6_stringSize_0f7a4, (some .int))
def mJ6_getChars_ba4f3 : zM := (cJ6_getChars_ba4f3, 7, 26, false, 0, 0, yJ6_getChars_ba4f3, (some .int))
def mJ5_append_c97b9 : zM := (cJ5_append_c97b9, 4, 25, false, 4, 91, yJ5_append_c97b9, (some (.object "java/lang/AbstractStringBuilder")))
def mJ4_append_bf812 : zM := (cJ4_append_bf812, 2, 0, false, 5, 114, yJ4_append_bf812, (some (.object "java/lang/StringBuilder")))
def mJ1_canEncode_fc78d : zM := (cJ1_canEncode_fc78d, 1, 22, false, 0, 0, yJ1_canEncode_fc78d, (some .boolean))
def mJ5_append_3fe6f : zM := (cJ5_append_3fe6f, 2, 25, false, 4, 91, yJ5_append_3fe6f, (some (.object "java/lang/AbstractStringBuilder")))
def mJ4_append_cf468 : zM := (cJ4_append_cf468, 2, 0, false, 5, 112, yJ4_append_cf468, (some (.object "java/lang/StringBuilder")))
def mX9_writeTerm : zM := (cX9_writeTerm, 5, 10, false, 6, 135, yX9_writeTerm, none)
def mJ5_length_8abf5 : zM := (cJ5_length_8abf5, 1, 25, false, 0, 0, yJ5_length_8abf5, (some .int))
def mJ4_length_8abf5 : zM := (cJ4_length_8abf5, 1, 0, false, 1, 20, yJ4_length_8abf5, (some .int))
def mX9_format : zM := (cX9_format, 5, 10, false, 8, 186, yX9_format, (some .int))
def mX10_write : zM := (cX10_write, 2, 11, false, 0, 0, yX10_write, none)
def mX10_writeTerm : zM := (cX10_writeTerm, 3, 11, false, 1, 21, yX10_writeTerm, none)
def mX10_format : zM := (cX10_format, 5, 11, false, 6, 145, yX10_format, (some .int))
def mJ3_checkIndex_8e157 : zM := (cJ3_checkIndex_8e157, 3, 24, false, 0, 0, yJ3_checkIndex_8e157, (some .int))
def mJ0_checkIndex_df160 : zM := (cJ0_checkIndex_df160, 2, 21, false, 1, 22, yJ0_checkIndex_df160, none)
def mJ5_charAt_5068e : zM := (cJ5_charAt_5068e, 5, 25, false, 2, 43, yJ5_charAt_5068e, (some .char))
def mJ4_charAt_5068e : zM := (cJ4_charAt_5068e, 2, 0, false, 3, 67, yJ4_charAt_5068e, (some .char))
def mX9_outputByte : zM := (cX9_outputByte, 2, 10, false, 4, 88, yX9_outputByte, (some .int))
def mX10_outputByte : zM := (cX10_outputByte, 2, 11, false, 1, 22, yX10_outputByte, (some .int))
def mX8_holdZeros : zM := (cX8_holdZeros, 2, 9, false, 1, 23, yX8_holdZeros, none)
def mX9_newArray : zM := (cX9_newArray, 4, 10, false, 2, 44, yX9_newArray, (some .int))
def mX10_newArray : zM := (cX10_newArray, 4, 11, false, 2, 42, yX10_newArray, (some .int))
def mX9_setElement : zM := (cX9_setElement, 6, 10, false, 1, 21, yX9_setElement, (some .int))
def mX10_amiss : zM := (cX10_amiss, 3, 11, false, 0, 0, yX10_amiss, (some .int))
def mX10_element : zM := (cX10_element, 4, 11, false, 2, 42, yX10_element, (some .int))
def mX10_setElement : zM := (cX10_setElement, 5, 11, false, 3, 65, yX10_setElement, (some .int))
def mX9_element : zM := (cX9_element, 4, 10, false, 1, 21, yX9_element, (some .int))
def mX8_holdPolynomial : zM := (cX8_holdPolynomial, 2, 9, false, 1, 40, yX8_holdPolynomial, none)
def mX9_storePolynomial : zM := (cX9_storePolynomial, 3, 10, false, 2, 61, yX9_storePolynomial, (some .int))
def mX10_storePolynomial : zM := (cX10_storePolynomial, 3, 11, false, 2, 42, yX10_storePolynomial, (some .int))
def mX9_loadPolynomial : zM := (cX9_loadPolynomial, 4, 10, false, 2, 43, yX9_loadPolynomial, (some .int))
def mX10_loadPolynomial : zM := (cX10_loadPolynomial, 4, 11, false, 2, 42, yX10_loadPolynomial, (some .int))
def mX9_clearSlot : zM := (cX9_clearSlot, 4, 10, false, 1, 21, yX9_clearSlot, (some .int))
def mX10_clearSlot : zM := (cX10_clearSlot, 3, 11, false, 2, 42, yX10_clearSlot, (some .int))
def mX9_firstDifference : zM := (cX9_firstDifference, 6, 10, false, 7, 163, yX9_firstDifference, (some .int))
def mX10_firstDifference : zM := (cX10_firstDifference, 5, 11, false, 5, 123, yX10_firstDifference, (some .int))
def mX5_copyFrom : zM := (cX5_copyFrom, 2, 6, false, 1, 40, yX5_copyFrom, none)
def mX6_copyFrom : zM := (cX6_copyFrom, 2, 7, false, 1, 40, yX6_copyFrom, none)
def mX9_saveSnapshot : zM := (cX9_saveSnapshot, 1, 10, false, 2, 61, yX9_saveSnapshot, (some .int))
def mX10_saveSnapshot : zM := (cX10_saveSnapshot, 2, 11, false, 0, 0, yX10_saveSnapshot, (some .int))
def mX9_restoreSnapshot : zM := (cX9_restoreSnapshot, 1, 10, false, 2, 61, yX9_restoreSnapshot, (some .int))
def mX10_restoreSnapshot : zM := (cX10_restoreSnapshot, 2, 11, false, 0, 0, yX10_restoreSnapshot, (some .int))
def mL_law : zM := (cL_law, 4, 20, false, 9, 211, yL_law, (some .boolean))
theorem z_found {α : Type} {L : List ((Nat × Nat) × α)} {c i : Nat} {v : α} (h : (L.find? (fun r => r.1.1 == c && r.1.2 == i)).map (fun r => r.2) = some v) : ((c, i), v) ∈ L := by
  cases hf : L.find? (fun r => r.1.1 == c && r.1.2 == i) with
  | none => rw [hf] at h; cases h
  | some r =>
    rw [hf] at h
    have h1 := List.find?_some hf
    have h2 := List.mem_of_find?_eq_some hf
    simp only [Bool.and_eq_true, beq_iff_eq] at h1
    obtain ⟨⟨a, b⟩, w⟩ := r
    cases h
    obtain ⟨rfl, rfl⟩ := h1
    exact h2
theorem z_find {α : Type} : ∀ {L : List ((Nat × Nat) × α)} {k c i : Nat} {v : α}, (L.map (fun r => r.1)).Nodup → L[k]? = some ((c, i), v) → (L.find? (fun r => r.1.1 == c && r.1.2 == i)).map (fun r => r.2) = some v
  | [], k, c, i, v, _, h => by simp at h
  | r :: L, 0, c, i, v, _, h => by
    simp only [List.getElem?_cons_zero, Option.some.injEq] at h
    subst h
    simp [List.find?_cons]
  | r :: L, k + 1, c, i, v, hn, h => by
    rw [List.getElem?_cons_succ] at h
    rw [List.map_cons, List.nodup_cons] at hn
    have hm : (c, i) ∈ L.map (fun r => r.1) := List.mem_map.mpr ⟨_, List.mem_of_getElem? h, rfl⟩
    have hne : (r.1.1 == c && r.1.2 == i) = false := by
      cases hb : (r.1.1 == c && r.1.2 == i) with
      | false => rfl
      | true =>
        simp only [Bool.and_eq_true, beq_iff_eq] at hb
        exact absurd (show r.1 ∈ L.map (fun r => r.1) by rw [show r.1 = (c, i) from Prod.ext hb.1 hb.2]; exact hm) hn.1
    rw [List.find?_cons, hne]
    exact z_find hn.2 h
def zkmL : List ((Nat × Nat) × (Nat × Nat × Nat × zM)) := [((0, 1), (2, 1, 0, mJ5_init_d00df)), ((0, 50), (5, 1, 0, mJ5_append_3fe6f)), ((0, 53), (5, 1, 0, mJ5_append_c97b9)), ((0, 329), (5, 1, 0, mJ5_charAt_5068e)), ((0, 333), (5, 1, 0, mJ5_setLength_d00df)), ((0, 343), (5, 0, 0, mJ5_length_8abf5)), ((1, 3), (6, 0, 0, mJmax)), ((1, 25), (1, 2, 1, mX0_insertTerm)), ((1, 45), (0, 2, 0, mJmax)), ((2, 3), (6, 0, 0, mJmax)), ((2, 40), (1, 0, 2, mX1_restart)), ((2, 48), (1, 1, 2, mX1_keepIfIndependent)), ((2, 55), (1, 2, 6, mX5_monomialAt)), ((2, 59), (1, 0, 2, mX1_reduceValues)), ((2, 62), (1, 0, 2, mX1_firstNonzeroValue)), ((2, 66), (1, 2, 2, mX1_keepValues)), ((2, 70), (0, 2, 0, mJ7_fill_53178)), ((2, 79), (1, 3, 2, mX1_addMultiple)), ((2, 83), (1, 1, 6, mX5_inverse)), ((3, 3), (6, 0, 0, mJmax)), ((3, 21), (1, 3, 5, mX4_choose)), ((3, 27), (2, 0, 0, mX7_init)), ((3, 28), (1, 2, 8, mX7_compute)), ((3, 32), (1, 0, 8, mX7_hasWall)), ((3, 42), (1, 2, 8, mX7_hasAboveWall)), ((3, 51), (1, 2, 3, mX2_isBefore)), ((3, 55), (1, 1, 8, mX7_holdsTermsOf)), ((3, 59), (1, 0, 1, mX0_degree)), ((3, 65), (0, 2, 0, mJmax)), ((3, 71), (1, 1, 8, mX7_isMirrorOf)), ((3, 75), (1, 0, 8, mX7_standardDegree)), ((4, 3), (6, 0, 0, mJmax)), ((4, 26), (0, 1, 0, mX3_isDigit)), ((4, 30), (1, 0, 4, mX3_signBehindNumber)), ((4, 34), (1, 1, 4, mX3_appendNumber)), ((5, 3), (6, 0, 0, mJmax)), ((5, 21), (1, 1, 5, mX4_weightOf)), ((6, 3), (6, 0, 0, mJmax)), ((6, 25), (7, 5, 0, mJmax)), ((6, 31), (0, 2, 0, mJ9_floorMod_7cf53)), ((6, 37), (1, 2, 6, mX5_holds)), ((6, 41), (1, 2, 6, mX5_power)), ((7, 3), (6, 0, 0, mJmax)), ((7, 15), (0, 2, 0, mJ7_fill_53178)), ((7, 21), (7, 5, 0, mJmax)), ((8, 3), (6, 0, 0, mJmax)), ((8, 31), (3, 0, 0, mX0_init)), ((8, 32), (0, 2, 0, mJ7_fill_53178)), ((8, 38), (1, 0, 2, mX1_restart)), ((8, 43), (1, 1, 8, mX7_nextColumn)), ((8, 47), (1, 1, 8, mX7_topOf)), ((8, 51), (1, 1, 2, mX1_keepIfIndependent)), ((8, 55), (1, 2, 8, mX7_insertCorner)), ((8, 59), (1, 0, 8, mX7_findWall)), ((8, 62), (1, 1, 8, mX7_isClosed)), ((8, 65), (1, 2, 5, mX4_isSmaller)), ((8, 74), (1, 2, 1, mX0_take)), ((8, 77), (1, 1, 8, mX7_lowerWall)), ((8, 85), (1, 0, 8, mX7_hasWall)), ((8, 89), (1, 1, 8, mX7_hasCorner)), ((8, 92), (1, 1, 1, mX0_hasTermsOf)), ((8, 96), (1, 1, 8, mX7_rowLength)), ((8, 99), (0, 2, 0, mJmax)), ((9, 3), (6, 0, 0, mJmax)), ((9, 22), (0, 2, 0, mJ7_fill_53178)), ((9, 33), (7, 5, 0, mJmax)), ((10, 3), (6, 0, 0, mJmax)), ((10, 11), (3, 0, 0, mX5_init)), ((10, 18), (3, 0, 0, mX6_init)), ((10, 35), (2, 1, 0, mX1_init)), ((10, 44), (3, 0, 0, mX4_init)), ((10, 51), (2, 0, 0, mX7_init)), ((10, 58), (3, 0, 0, mX2_init)), ((10, 65), (3, 0, 0, mX3_init)), ((10, 72), (2, 0, 0, mJ4_init_da8c8)), ((10, 83), (3, 0, 0, mX8_init)), ((10, 84), (0, 1, 0, mX9_isAllowedPrime)), ((10, 92), (1, 1, 6, mX5_restart)), ((10, 96), (1, 0, 7, mX6_clear)), ((10, 99), (1, 0, 3, mX2_forget)), ((10, 102), (1, 1, 6, mX5_isResidue)), ((10, 105), (1, 2, 6, mX5_holds)), ((10, 112), (1, 2, 6, mX5_append)), ((10, 116), (1, 1, 6, mX5_hasIndex)), ((10, 119), (1, 1, 6, mX5_remove)), ((10, 129), (1, 0, 6, mX5_isSymmetric)), ((10, 133), (1, 0, 6, mX5_mirror)), ((10, 136), (1, 4, 6, mX5_transform)), ((10, 140), (0, 1, 0, mX9_isExponent)), ((10, 143), (0, 3, 0, mX9_isOrder)), ((10, 147), (1, 3, 10, mX9_computeOrder)), ((10, 155), (1, 1, 8, mX7_find)), ((10, 164), (0, 1, 0, mX9_decimalExponents)), ((10, 168), (1, 0, 10, mX9_refreshFan)), ((10, 172), (1, 1, 10, mX9_findCone)), ((10, 176), (1, 0, 8, mX7_hasWall)), ((10, 185), (0, 2, 0, mX9_isWeight)), ((10, 188), (1, 2, 3, mX2_firstWithin)), ((10, 192), (1, 1, 3, mX2_find)), ((10, 194), (1, 2, 8, mX7_hasOnWall)), ((10, 197), (1, 2, 10, mX9_findBasisPolynomial)), ((10, 201), (1, 1, 1, mX0_factorOf)), ((10, 204), (1, 1, 8, mX7_countCornersOutside)), ((10, 208), (1, 0, 3, mX2_countDistinctPolynomials)), ((10, 212), (1, 0, 3, mX2_greatestDegree)), ((10, 215), (1, 1, 3, mX2_firstMirrorOf)), ((10, 218), (1, 0, 3, mX2_firstFlattest)), ((10, 224), (1, 1, 6, mX5_residue)), ((10, 227), (1, 0, 7, mX6_countTerms)), ((10, 230), (1, 2, 7, mX6_valueAt)), ((10, 234), (1, 1, 2, mX1_keepStandardMonomials)), ((10, 241), (1, 0, 10, mX9_replaceByInterpolation)), ((10, 244), (1, 1, 10, mX9_findSlot)), ((10, 251), (1, 0, 9, mX8_errorForArrays)), ((10, 266), (1, 1, 4, mX3_append)), ((10, 268), (1, 0, 4, mX3_readNumbers)), ((10, 275), (1, 2, 10, mX9_addPoint)), ((10, 278), (1, 1, 0, mJ4_setLength_d00df)), ((10, 281), (1, 2, 10, mX9_writeTerm)), ((10, 284), (1, 1, 0, mJ4_append_cf468)), ((10, 287), (1, 0, 0, mJ4_length_8abf5)), ((10, 289), (1, 1, 0, mJ4_charAt_5068e)), ((10, 293), (1, 1, 9, mX8_holdZeros)), ((10, 296), (1, 1, 9, mX8_holdPolynomial)), ((10, 300), (1, 1, 6, mX5_copyFrom)), ((10, 303), (1, 1, 7, mX6_copyFrom)), ((10, 308), (1, 3, 5, mX4_choose)), ((10, 311), (1, 2, 8, mX7_compute)), ((10, 315), (1, 2, 3, mX2_build)), ((10, 318), (1, 0, 2, mX1_reduceValues)), ((10, 326), (1, 1, 0, mJ4_append_bf812)), ((11, 1), (6, 0, 0, mJmax)), ((11, 114), (0, 3, 0, mX10_isIn)), ((11, 118), (0, 1, 0, mX10_isPrime)), ((11, 126), (1, 0, 11, mX10_clearCurrent)), ((11, 129), (1, 1, 11, mX10_isPoint)), ((11, 132), (0, 5, 0, mX10_isGreater)), ((11, 136), (1, 2, 11, mX10_power)), ((11, 143), (0, 2, 0, mJ9_floorMod_7cf53)), ((11, 148), (1, 1, 11, mX10_inverse)), ((11, 155), (1, 3, 11, mX10_sort)), ((11, 159), (1, 1, 11, mX10_reduce)), ((11, 162), (1, 2, 11, mX10_becomesStandard)), ((11, 166), (1, 1, 11, mX10_isCorner)), ((11, 169), (1, 1, 11, mX10_becomesCorner)), ((11, 173), (1, 0, 11, mX10_sortCorners)), ((11, 176), (0, 1, 0, mX10_isExponent)), ((11, 179), (0, 2, 0, mX10_isWeight)), ((11, 183), (1, 3, 11, mX10_compute)), ((11, 186), (0, 1, 0, mX10_exponents)), ((11, 189), (0, 2, 0, mX10_divisor)), ((11, 192), (1, 1, 11, mX10_wall)), ((11, 198), (1, 1, 11, mX10_keep)), ((11, 201), (1, 0, 11, mX10_fan)), ((11, 204), (1, 1, 11, mX10_isCone)), ((11, 207), (1, 3, 11, mX10_contains)), ((11, 210), (1, 2, 11, mX10_isBasis)), ((11, 213), (1, 3, 11, mX10_cell)), ((11, 217), (1, 4, 11, mX10_isSame)), ((11, 221), (1, 2, 11, mX10_isNew)), ((11, 224), (0, 2, 0, mJmax)), ((11, 227), (1, 2, 11, mX10_isMirrored)), ((11, 230), (1, 1, 11, mX10_steepness)), ((11, 233), (1, 1, 11, mX10_valueAt)), ((11, 236), (1, 1, 11, mX10_setUp)), ((11, 239), (1, 2, 11, mX10_exchange)), ((11, 242), (1, 0, 11, mX10_termCount)), ((11, 246), (1, 1, 11, mX10_solve)), ((11, 249), (0, 1, 0, mX10_isSlot)), ((11, 261), (1, 2, 11, mX10_isAt)), ((11, 267), (1, 0, 11, mX10_takesNumber)), ((11, 271), (1, 2, 11, mX10_addPoint)), ((11, 274), (1, 1, 11, mX10_takesPoint)), ((11, 278), (1, 1, 11, mX10_takesList)), ((11, 284), (1, 1, 11, mX10_write)), ((11, 287), (1, 2, 11, mX10_writeTerm)), ((11, 290), (1, 2, 11, mX10_element)), ((11, 293), (1, 2, 11, mX10_amiss)), ((20, 9), (2, 0, 0, mX9_init)), ((20, 12), (2, 0, 0, mX10_init)), ((20, 13), (1, 1, 10, mX9_setPrime)), ((20, 17), (1, 1, 11, mX10_setPrime)), ((20, 18), (1, 0, 10, mX9_prime)), ((20, 22), (1, 0, 11, mX10_prime)), ((20, 23), (1, 2, 10, mX9_addPoint)), ((20, 27), (1, 2, 11, mX10_addPoint)), ((20, 28), (1, 1, 10, mX9_removePoint)), ((20, 31), (1, 1, 11, mX10_removePoint)), ((20, 32), (1, 0, 10, mX9_pointCount)), ((20, 35), (1, 0, 11, mX10_pointCount)), ((20, 36), (1, 1, 10, mX9_pointX)), ((20, 39), (1, 1, 11, mX10_pointX)), ((20, 40), (1, 1, 10, mX9_pointY)), ((20, 43), (1, 1, 11, mX10_pointY)), ((20, 44), (1, 0, 10, mX9_swapCoordinates)), ((20, 47), (1, 0, 11, mX10_swapCoordinates)), ((20, 48), (1, 2, 10, mX9_translate)), ((20, 51), (1, 2, 11, mX10_translate)), ((20, 52), (1, 2, 10, mX9_scale)), ((20, 55), (1, 2, 11, mX10_scale)), ((20, 56), (1, 4, 10, mX9_columnHeight)), ((20, 60), (1, 4, 11, mX10_columnHeight)), ((20, 61), (1, 3, 10, mX9_cornerCount)), ((20, 65), (1, 3, 11, mX10_cornerCount)), ((20, 66), (1, 4, 10, mX9_corner)), ((20, 69), (1, 4, 11, mX10_corner)), ((20, 70), (1, 0, 10, mX9_coneCount)), ((20, 73), (1, 0, 11, mX10_coneCount)), ((20, 74), (1, 1, 10, mX9_wallNumerator)), ((20, 77), (1, 1, 11, mX10_wallNumerator)), ((20, 78), (1, 1, 10, mX9_wallDenominator)), ((20, 81), (1, 1, 11, mX10_wallDenominator)), ((20, 82), (1, 2, 10, mX9_firstConeContaining)), ((20, 85), (1, 2, 11, mX10_firstConeContaining)), ((20, 86), (1, 2, 10, mX9_conesContaining)), ((20, 89), (1, 2, 11, mX10_conesContaining)), ((20, 90), (1, 2, 10, mX9_coneHeight)), ((20, 93), (1, 2, 11, mX10_coneHeight)), ((20, 94), (1, 1, 10, mX9_basisSize)), ((20, 97), (1, 1, 11, mX10_basisSize)), ((20, 98), (1, 2, 10, mX9_basisCorner)), ((20, 101), (1, 2, 11, mX10_basisCorner)), ((20, 102), (1, 4, 10, mX9_basisCoefficient)), ((20, 105), (1, 4, 11, mX10_basisCoefficient)), ((20, 106), (1, 1, 10, mX9_changedCorners)), ((20, 109), (1, 1, 11, mX10_changedCorners)), ((20, 110), (1, 0, 10, mX9_universalSize)), ((20, 113), (1, 0, 11, mX10_universalSize)), ((20, 114), (1, 0, 10, mX9_universalDegree)), ((20, 117), (1, 0, 11, mX10_universalDegree)), ((20, 118), (1, 1, 10, mX9_mirroredCone)), ((20, 121), (1, 1, 11, mX10_mirroredCone)), ((20, 122), (1, 0, 10, mX9_flattestCone)), ((20, 125), (1, 0, 11, mX10_flattestCone)), ((20, 126), (1, 3, 10, mX9_setCoefficient)), ((20, 129), (1, 3, 11, mX10_setCoefficient)), ((20, 130), (1, 2, 10, mX9_coefficient)), ((20, 133), (1, 2, 11, mX10_coefficient)), ((20, 134), (1, 0, 10, mX9_termCount)), ((20, 137), (1, 0, 11, mX10_termCount)), ((20, 138), (1, 1, 10, mX9_evaluate)), ((20, 141), (1, 1, 11, mX10_evaluate)), ((20, 142), (1, 0, 10, mX9_isVanishing)), ((20, 145), (1, 0, 11, mX10_isVanishing)), ((20, 146), (1, 1, 10, mX9_reduceToNormalForm)), ((20, 149), (1, 1, 11, mX10_reduceToNormalForm)), ((20, 150), (1, 2, 10, mX9_interpolate)), ((20, 153), (1, 2, 11, mX10_interpolate)), ((20, 154), (1, 2, 10, mX9_loadBasisPolynomial)), ((20, 157), (1, 2, 11, mX10_loadBasisPolynomial)), ((20, 158), (1, 1, 10, mX9_appendInput)), ((20, 161), (1, 1, 11, mX10_appendInput)), ((20, 162), (1, 0, 10, mX9_inputLength)), ((20, 165), (1, 0, 11, mX10_inputLength)), ((20, 166), (1, 0, 10, mX9_parsePoints)), ((20, 169), (1, 0, 11, mX10_parsePoints)), ((20, 170), (1, 2, 10, mX9_format)), ((20, 173), (1, 2, 11, mX10_format)), ((20, 174), (1, 1, 10, mX9_outputByte)), ((20, 177), (1, 1, 11, mX10_outputByte)), ((20, 178), (1, 2, 10, mX9_newArray)), ((20, 181), (1, 2, 11, mX10_newArray)), ((20, 182), (1, 3, 10, mX9_setElement)), ((20, 185), (1, 3, 11, mX10_setElement)), ((20, 186), (1, 2, 10, mX9_element)), ((20, 189), (1, 2, 11, mX10_element)), ((20, 190), (1, 1, 10, mX9_storePolynomial)), ((20, 193), (1, 1, 11, mX10_storePolynomial)), ((20, 194), (1, 1, 10, mX9_loadPolynomial)), ((20, 197), (1, 1, 11, mX10_loadPolynomial)), ((20, 198), (1, 1, 10, mX9_clearSlot)), ((20, 201), (1, 1, 11, mX10_clearSlot)), ((20, 202), (1, 2, 10, mX9_firstDifference)), ((20, 205), (1, 2, 11, mX10_firstDifference)), ((20, 206), (1, 0, 10, mX9_saveSnapshot)), ((20, 209), (1, 0, 11, mX10_saveSnapshot)), ((20, 210), (1, 0, 10, mX9_restoreSnapshot)), ((20, 213), (1, 0, 11, mX10_restoreSnapshot)), ((21, 1059), (0, 3, 0, mJ3_checkIndex_8e157)), ((25, 3), (6, 0, 0, mJmax)), ((25, 83), (4, 0, 0, mJ5_isLatin1_aae02)), ((25, 100), (4, 1, 0, mJ5_ensureCapacityInternal_d00df)), ((25, 104), (4, 1, 0, mJ5_newCapacity_0f7a4)), ((25, 108), (0, 2, 0, mJ7_copyOf_9075b)), ((25, 114), (0, 3, 0, mJ8_newLength_cabcc)), ((25, 138), (0, 2, 0, mJmin)), ((25, 144), (0, 2, 0, mJ0_checkIndex_df160)), ((25, 191), (0, 1, 0, mJ1_canEncode_fc78d)), ((25, 245), (0, 1, 0, mJ6_stringSize_0f7a4)), ((25, 248), (0, 3, 0, mJ6_getChars_ba4f3)), ((27, 150), (7, 5, 0, mJmax)), ((27, 304), (0, 2, 0, mJmin)), ((28, 194), (0, 2, 0, mJmax))]
def zkm (c i : Nat) : Option (Nat × Nat × Nat × zM) := (zkmL.find? (fun r => r.1.1 == c && r.1.2 == i)).map (fun r => r.2)
theorem zkm_nd : (zkmL.map (fun r => r.1)).Nodup := by decide +kernel
theorem zkm_at {k c i : Nat} {v : Nat × Nat × Nat × zM} (h : zkmL[k]? = some ((c, i), v)) : zkm c i = some v := z_find zkm_nd h
theorem zkm_mem {c i : Nat} {v : Nat × Nat × Nat × zM} (h : zkm c i = some v) : ((c, i), v) ∈ zkmL := z_found h
theorem zkm_0_1 : zkm 0 1 = some (2, 1, 0, mJ5_init_d00df) := zkm_at (k := 0) rfl
theorem zkm_0_50 : zkm 0 50 = some (5, 1, 0, mJ5_append_3fe6f) := zkm_at (k := 1) rfl
theorem zkm_0_53 : zkm 0 53 = some (5, 1, 0, mJ5_append_c97b9) := zkm_at (k := 2) rfl
theorem zkm_0_329 : zkm 0 329 = some (5, 1, 0, mJ5_charAt_5068e) := zkm_at (k := 3) rfl
theorem zkm_0_333 : zkm 0 333 = some (5, 1, 0, mJ5_setLength_d00df) := zkm_at (k := 4) rfl
theorem zkm_0_343 : zkm 0 343 = some (5, 0, 0, mJ5_length_8abf5) := zkm_at (k := 5) rfl
theorem zkm_1_3 : zkm 1 3 = some (6, 0, 0, mJmax) := zkm_at (k := 6) rfl
theorem zkm_1_25 : zkm 1 25 = some (1, 2, 1, mX0_insertTerm) := zkm_at (k := 7) rfl
theorem zkm_1_45 : zkm 1 45 = some (0, 2, 0, mJmax) := zkm_at (k := 8) rfl
theorem zkm_2_3 : zkm 2 3 = some (6, 0, 0, mJmax) := zkm_at (k := 9) rfl
theorem zkm_2_40 : zkm 2 40 = some (1, 0, 2, mX1_restart) := zkm_at (k := 10) rfl
theorem zkm_2_48 : zkm 2 48 = some (1, 1, 2, mX1_keepIfIndependent) := zkm_at (k := 11) rfl
theorem zkm_2_55 : zkm 2 55 = some (1, 2, 6, mX5_monomialAt) := zkm_at (k := 12) rfl
theorem zkm_2_59 : zkm 2 59 = some (1, 0, 2, mX1_reduceValues) := zkm_at (k := 13) rfl
theorem zkm_2_62 : zkm 2 62 = some (1, 0, 2, mX1_firstNonzeroValue) := zkm_at (k := 14) rfl
theorem zkm_2_66 : zkm 2 66 = some (1, 2, 2, mX1_keepValues) := zkm_at (k := 15) rfl
theorem zkm_2_70 : zkm 2 70 = some (0, 2, 0, mJ7_fill_53178) := zkm_at (k := 16) rfl
theorem zkm_2_79 : zkm 2 79 = some (1, 3, 2, mX1_addMultiple) := zkm_at (k := 17) rfl
theorem zkm_2_83 : zkm 2 83 = some (1, 1, 6, mX5_inverse) := zkm_at (k := 18) rfl
theorem zkm_3_3 : zkm 3 3 = some (6, 0, 0, mJmax) := zkm_at (k := 19) rfl
theorem zkm_3_21 : zkm 3 21 = some (1, 3, 5, mX4_choose) := zkm_at (k := 20) rfl
theorem zkm_3_27 : zkm 3 27 = some (2, 0, 0, mX7_init) := zkm_at (k := 21) rfl
theorem zkm_3_28 : zkm 3 28 = some (1, 2, 8, mX7_compute) := zkm_at (k := 22) rfl
theorem zkm_3_32 : zkm 3 32 = some (1, 0, 8, mX7_hasWall) := zkm_at (k := 23) rfl
theorem zkm_3_42 : zkm 3 42 = some (1, 2, 8, mX7_hasAboveWall) := zkm_at (k := 24) rfl
theorem zkm_3_51 : zkm 3 51 = some (1, 2, 3, mX2_isBefore) := zkm_at (k := 25) rfl
theorem zkm_3_55 : zkm 3 55 = some (1, 1, 8, mX7_holdsTermsOf) := zkm_at (k := 26) rfl
theorem zkm_3_59 : zkm 3 59 = some (1, 0, 1, mX0_degree) := zkm_at (k := 27) rfl
theorem zkm_3_65 : zkm 3 65 = some (0, 2, 0, mJmax) := zkm_at (k := 28) rfl
theorem zkm_3_71 : zkm 3 71 = some (1, 1, 8, mX7_isMirrorOf) := zkm_at (k := 29) rfl
theorem zkm_3_75 : zkm 3 75 = some (1, 0, 8, mX7_standardDegree) := zkm_at (k := 30) rfl
theorem zkm_4_3 : zkm 4 3 = some (6, 0, 0, mJmax) := zkm_at (k := 31) rfl
theorem zkm_4_26 : zkm 4 26 = some (0, 1, 0, mX3_isDigit) := zkm_at (k := 32) rfl
theorem zkm_4_30 : zkm 4 30 = some (1, 0, 4, mX3_signBehindNumber) := zkm_at (k := 33) rfl
theorem zkm_4_34 : zkm 4 34 = some (1, 1, 4, mX3_appendNumber) := zkm_at (k := 34) rfl
theorem zkm_5_3 : zkm 5 3 = some (6, 0, 0, mJmax) := zkm_at (k := 35) rfl
theorem zkm_5_21 : zkm 5 21 = some (1, 1, 5, mX4_weightOf) := zkm_at (k := 36) rfl
theorem zkm_6_3 : zkm 6 3 = some (6, 0, 0, mJmax) := zkm_at (k := 37) rfl
theorem zkm_6_25 : zkm 6 25 = some (7, 5, 0, mJmax) := zkm_at (k := 38) rfl
theorem zkm_6_31 : zkm 6 31 = some (0, 2, 0, mJ9_floorMod_7cf53) := zkm_at (k := 39) rfl
theorem zkm_6_37 : zkm 6 37 = some (1, 2, 6, mX5_holds) := zkm_at (k := 40) rfl
theorem zkm_6_41 : zkm 6 41 = some (1, 2, 6, mX5_power) := zkm_at (k := 41) rfl
theorem zkm_7_3 : zkm 7 3 = some (6, 0, 0, mJmax) := zkm_at (k := 42) rfl
theorem zkm_7_15 : zkm 7 15 = some (0, 2, 0, mJ7_fill_53178) := zkm_at (k := 43) rfl
theorem zkm_7_21 : zkm 7 21 = some (7, 5, 0, mJmax) := zkm_at (k := 44) rfl
theorem zkm_8_3 : zkm 8 3 = some (6, 0, 0, mJmax) := zkm_at (k := 45) rfl
theorem zkm_8_31 : zkm 8 31 = some (3, 0, 0, mX0_init) := zkm_at (k := 46) rfl
theorem zkm_8_32 : zkm 8 32 = some (0, 2, 0, mJ7_fill_53178) := zkm_at (k := 47) rfl
theorem zkm_8_38 : zkm 8 38 = some (1, 0, 2, mX1_restart) := zkm_at (k := 48) rfl
theorem zkm_8_43 : zkm 8 43 = some (1, 1, 8, mX7_nextColumn) := zkm_at (k := 49) rfl
theorem zkm_8_47 : zkm 8 47 = some (1, 1, 8, mX7_topOf) := zkm_at (k := 50) rfl
theorem zkm_8_51 : zkm 8 51 = some (1, 1, 2, mX1_keepIfIndependent) := zkm_at (k := 51) rfl
theorem zkm_8_55 : zkm 8 55 = some (1, 2, 8, mX7_insertCorner) := zkm_at (k := 52) rfl
theorem zkm_8_59 : zkm 8 59 = some (1, 0, 8, mX7_findWall) := zkm_at (k := 53) rfl
theorem zkm_8_62 : zkm 8 62 = some (1, 1, 8, mX7_isClosed) := zkm_at (k := 54) rfl
theorem zkm_8_65 : zkm 8 65 = some (1, 2, 5, mX4_isSmaller) := zkm_at (k := 55) rfl
theorem zkm_8_74 : zkm 8 74 = some (1, 2, 1, mX0_take) := zkm_at (k := 56) rfl
theorem zkm_8_77 : zkm 8 77 = some (1, 1, 8, mX7_lowerWall) := zkm_at (k := 57) rfl
theorem zkm_8_85 : zkm 8 85 = some (1, 0, 8, mX7_hasWall) := zkm_at (k := 58) rfl
theorem zkm_8_89 : zkm 8 89 = some (1, 1, 8, mX7_hasCorner) := zkm_at (k := 59) rfl
theorem zkm_8_92 : zkm 8 92 = some (1, 1, 1, mX0_hasTermsOf) := zkm_at (k := 60) rfl
theorem zkm_8_96 : zkm 8 96 = some (1, 1, 8, mX7_rowLength) := zkm_at (k := 61) rfl
theorem zkm_8_99 : zkm 8 99 = some (0, 2, 0, mJmax) := zkm_at (k := 62) rfl
theorem zkm_9_3 : zkm 9 3 = some (6, 0, 0, mJmax) := zkm_at (k := 63) rfl
theorem zkm_9_22 : zkm 9 22 = some (0, 2, 0, mJ7_fill_53178) := zkm_at (k := 64) rfl
theorem zkm_9_33 : zkm 9 33 = some (7, 5, 0, mJmax) := zkm_at (k := 65) rfl
theorem zkm_10_3 : zkm 10 3 = some (6, 0, 0, mJmax) := zkm_at (k := 66) rfl
theorem zkm_10_11 : zkm 10 11 = some (3, 0, 0, mX5_init) := zkm_at (k := 67) rfl
theorem zkm_10_18 : zkm 10 18 = some (3, 0, 0, mX6_init) := zkm_at (k := 68) rfl
theorem zkm_10_35 : zkm 10 35 = some (2, 1, 0, mX1_init) := zkm_at (k := 69) rfl
theorem zkm_10_44 : zkm 10 44 = some (3, 0, 0, mX4_init) := zkm_at (k := 70) rfl
theorem zkm_10_51 : zkm 10 51 = some (2, 0, 0, mX7_init) := zkm_at (k := 71) rfl
theorem zkm_10_58 : zkm 10 58 = some (3, 0, 0, mX2_init) := zkm_at (k := 72) rfl
theorem zkm_10_65 : zkm 10 65 = some (3, 0, 0, mX3_init) := zkm_at (k := 73) rfl
theorem zkm_10_72 : zkm 10 72 = some (2, 0, 0, mJ4_init_da8c8) := zkm_at (k := 74) rfl
theorem zkm_10_83 : zkm 10 83 = some (3, 0, 0, mX8_init) := zkm_at (k := 75) rfl
theorem zkm_10_84 : zkm 10 84 = some (0, 1, 0, mX9_isAllowedPrime) := zkm_at (k := 76) rfl
theorem zkm_10_92 : zkm 10 92 = some (1, 1, 6, mX5_restart) := zkm_at (k := 77) rfl
theorem zkm_10_96 : zkm 10 96 = some (1, 0, 7, mX6_clear) := zkm_at (k := 78) rfl
theorem zkm_10_99 : zkm 10 99 = some (1, 0, 3, mX2_forget) := zkm_at (k := 79) rfl
theorem zkm_10_102 : zkm 10 102 = some (1, 1, 6, mX5_isResidue) := zkm_at (k := 80) rfl
theorem zkm_10_105 : zkm 10 105 = some (1, 2, 6, mX5_holds) := zkm_at (k := 81) rfl
theorem zkm_10_112 : zkm 10 112 = some (1, 2, 6, mX5_append) := zkm_at (k := 82) rfl
theorem zkm_10_116 : zkm 10 116 = some (1, 1, 6, mX5_hasIndex) := zkm_at (k := 83) rfl
theorem zkm_10_119 : zkm 10 119 = some (1, 1, 6, mX5_remove) := zkm_at (k := 84) rfl
theorem zkm_10_129 : zkm 10 129 = some (1, 0, 6, mX5_isSymmetric) := zkm_at (k := 85) rfl
theorem zkm_10_133 : zkm 10 133 = some (1, 0, 6, mX5_mirror) := zkm_at (k := 86) rfl
theorem zkm_10_136 : zkm 10 136 = some (1, 4, 6, mX5_transform) := zkm_at (k := 87) rfl
theorem zkm_10_140 : zkm 10 140 = some (0, 1, 0, mX9_isExponent) := zkm_at (k := 88) rfl
theorem zkm_10_143 : zkm 10 143 = some (0, 3, 0, mX9_isOrder) := zkm_at (k := 89) rfl
theorem zkm_10_147 : zkm 10 147 = some (1, 3, 10, mX9_computeOrder) := zkm_at (k := 90) rfl
theorem zkm_10_155 : zkm 10 155 = some (1, 1, 8, mX7_find) := zkm_at (k := 91) rfl
theorem zkm_10_164 : zkm 10 164 = some (0, 1, 0, mX9_decimalExponents) := zkm_at (k := 92) rfl
theorem zkm_10_168 : zkm 10 168 = some (1, 0, 10, mX9_refreshFan) := zkm_at (k := 93) rfl
theorem zkm_10_172 : zkm 10 172 = some (1, 1, 10, mX9_findCone) := zkm_at (k := 94) rfl
theorem zkm_10_176 : zkm 10 176 = some (1, 0, 8, mX7_hasWall) := zkm_at (k := 95) rfl
theorem zkm_10_185 : zkm 10 185 = some (0, 2, 0, mX9_isWeight) := zkm_at (k := 96) rfl
theorem zkm_10_188 : zkm 10 188 = some (1, 2, 3, mX2_firstWithin) := zkm_at (k := 97) rfl
theorem zkm_10_192 : zkm 10 192 = some (1, 1, 3, mX2_find) := zkm_at (k := 98) rfl
theorem zkm_10_194 : zkm 10 194 = some (1, 2, 8, mX7_hasOnWall) := zkm_at (k := 99) rfl
theorem zkm_10_197 : zkm 10 197 = some (1, 2, 10, mX9_findBasisPolynomial) := zkm_at (k := 100) rfl
theorem zkm_10_201 : zkm 10 201 = some (1, 1, 1, mX0_factorOf) := zkm_at (k := 101) rfl
theorem zkm_10_204 : zkm 10 204 = some (1, 1, 8, mX7_countCornersOutside) := zkm_at (k := 102) rfl
theorem zkm_10_208 : zkm 10 208 = some (1, 0, 3, mX2_countDistinctPolynomials) := zkm_at (k := 103) rfl
theorem zkm_10_212 : zkm 10 212 = some (1, 0, 3, mX2_greatestDegree) := zkm_at (k := 104) rfl
theorem zkm_10_215 : zkm 10 215 = some (1, 1, 3, mX2_firstMirrorOf) := zkm_at (k := 105) rfl
theorem zkm_10_218 : zkm 10 218 = some (1, 0, 3, mX2_firstFlattest) := zkm_at (k := 106) rfl
theorem zkm_10_224 : zkm 10 224 = some (1, 1, 6, mX5_residue) := zkm_at (k := 107) rfl
theorem zkm_10_227 : zkm 10 227 = some (1, 0, 7, mX6_countTerms) := zkm_at (k := 108) rfl
theorem zkm_10_230 : zkm 10 230 = some (1, 2, 7, mX6_valueAt) := zkm_at (k := 109) rfl
theorem zkm_10_234 : zkm 10 234 = some (1, 1, 2, mX1_keepStandardMonomials) := zkm_at (k := 110) rfl
theorem zkm_10_241 : zkm 10 241 = some (1, 0, 10, mX9_replaceByInterpolation) := zkm_at (k := 111) rfl
theorem zkm_10_244 : zkm 10 244 = some (1, 1, 10, mX9_findSlot) := zkm_at (k := 112) rfl
theorem zkm_10_251 : zkm 10 251 = some (1, 0, 9, mX8_errorForArrays) := zkm_at (k := 113) rfl
theorem zkm_10_266 : zkm 10 266 = some (1, 1, 4, mX3_append) := zkm_at (k := 114) rfl
theorem zkm_10_268 : zkm 10 268 = some (1, 0, 4, mX3_readNumbers) := zkm_at (k := 115) rfl
theorem zkm_10_275 : zkm 10 275 = some (1, 2, 10, mX9_addPoint) := zkm_at (k := 116) rfl
theorem zkm_10_278 : zkm 10 278 = some (1, 1, 0, mJ4_setLength_d00df) := zkm_at (k := 117) rfl
theorem zkm_10_281 : zkm 10 281 = some (1, 2, 10, mX9_writeTerm) := zkm_at (k := 118) rfl
theorem zkm_10_284 : zkm 10 284 = some (1, 1, 0, mJ4_append_cf468) := zkm_at (k := 119) rfl
theorem zkm_10_287 : zkm 10 287 = some (1, 0, 0, mJ4_length_8abf5) := zkm_at (k := 120) rfl
theorem zkm_10_289 : zkm 10 289 = some (1, 1, 0, mJ4_charAt_5068e) := zkm_at (k := 121) rfl
theorem zkm_10_293 : zkm 10 293 = some (1, 1, 9, mX8_holdZeros) := zkm_at (k := 122) rfl
theorem zkm_10_296 : zkm 10 296 = some (1, 1, 9, mX8_holdPolynomial) := zkm_at (k := 123) rfl
theorem zkm_10_300 : zkm 10 300 = some (1, 1, 6, mX5_copyFrom) := zkm_at (k := 124) rfl
theorem zkm_10_303 : zkm 10 303 = some (1, 1, 7, mX6_copyFrom) := zkm_at (k := 125) rfl
theorem zkm_10_308 : zkm 10 308 = some (1, 3, 5, mX4_choose) := zkm_at (k := 126) rfl
theorem zkm_10_311 : zkm 10 311 = some (1, 2, 8, mX7_compute) := zkm_at (k := 127) rfl
theorem zkm_10_315 : zkm 10 315 = some (1, 2, 3, mX2_build) := zkm_at (k := 128) rfl
theorem zkm_10_318 : zkm 10 318 = some (1, 0, 2, mX1_reduceValues) := zkm_at (k := 129) rfl
theorem zkm_10_326 : zkm 10 326 = some (1, 1, 0, mJ4_append_bf812) := zkm_at (k := 130) rfl
theorem zkm_11_1 : zkm 11 1 = some (6, 0, 0, mJmax) := zkm_at (k := 131) rfl
theorem zkm_11_114 : zkm 11 114 = some (0, 3, 0, mX10_isIn) := zkm_at (k := 132) rfl
theorem zkm_11_118 : zkm 11 118 = some (0, 1, 0, mX10_isPrime) := zkm_at (k := 133) rfl
theorem zkm_11_126 : zkm 11 126 = some (1, 0, 11, mX10_clearCurrent) := zkm_at (k := 134) rfl
theorem zkm_11_129 : zkm 11 129 = some (1, 1, 11, mX10_isPoint) := zkm_at (k := 135) rfl
theorem zkm_11_132 : zkm 11 132 = some (0, 5, 0, mX10_isGreater) := zkm_at (k := 136) rfl
theorem zkm_11_136 : zkm 11 136 = some (1, 2, 11, mX10_power) := zkm_at (k := 137) rfl
theorem zkm_11_143 : zkm 11 143 = some (0, 2, 0, mJ9_floorMod_7cf53) := zkm_at (k := 138) rfl
theorem zkm_11_148 : zkm 11 148 = some (1, 1, 11, mX10_inverse) := zkm_at (k := 139) rfl
theorem zkm_11_155 : zkm 11 155 = some (1, 3, 11, mX10_sort) := zkm_at (k := 140) rfl
theorem zkm_11_159 : zkm 11 159 = some (1, 1, 11, mX10_reduce) := zkm_at (k := 141) rfl
theorem zkm_11_162 : zkm 11 162 = some (1, 2, 11, mX10_becomesStandard) := zkm_at (k := 142) rfl
theorem zkm_11_166 : zkm 11 166 = some (1, 1, 11, mX10_isCorner) := zkm_at (k := 143) rfl
theorem zkm_11_169 : zkm 11 169 = some (1, 1, 11, mX10_becomesCorner) := zkm_at (k := 144) rfl
theorem zkm_11_173 : zkm 11 173 = some (1, 0, 11, mX10_sortCorners) := zkm_at (k := 145) rfl
theorem zkm_11_176 : zkm 11 176 = some (0, 1, 0, mX10_isExponent) := zkm_at (k := 146) rfl
theorem zkm_11_179 : zkm 11 179 = some (0, 2, 0, mX10_isWeight) := zkm_at (k := 147) rfl
theorem zkm_11_183 : zkm 11 183 = some (1, 3, 11, mX10_compute) := zkm_at (k := 148) rfl
theorem zkm_11_186 : zkm 11 186 = some (0, 1, 0, mX10_exponents) := zkm_at (k := 149) rfl
theorem zkm_11_189 : zkm 11 189 = some (0, 2, 0, mX10_divisor) := zkm_at (k := 150) rfl
theorem zkm_11_192 : zkm 11 192 = some (1, 1, 11, mX10_wall) := zkm_at (k := 151) rfl
theorem zkm_11_198 : zkm 11 198 = some (1, 1, 11, mX10_keep) := zkm_at (k := 152) rfl
theorem zkm_11_201 : zkm 11 201 = some (1, 0, 11, mX10_fan) := zkm_at (k := 153) rfl
theorem zkm_11_204 : zkm 11 204 = some (1, 1, 11, mX10_isCone) := zkm_at (k := 154) rfl
theorem zkm_11_207 : zkm 11 207 = some (1, 3, 11, mX10_contains) := zkm_at (k := 155) rfl
theorem zkm_11_210 : zkm 11 210 = some (1, 2, 11, mX10_isBasis) := zkm_at (k := 156) rfl
theorem zkm_11_213 : zkm 11 213 = some (1, 3, 11, mX10_cell) := zkm_at (k := 157) rfl
theorem zkm_11_217 : zkm 11 217 = some (1, 4, 11, mX10_isSame) := zkm_at (k := 158) rfl
theorem zkm_11_221 : zkm 11 221 = some (1, 2, 11, mX10_isNew) := zkm_at (k := 159) rfl
theorem zkm_11_224 : zkm 11 224 = some (0, 2, 0, mJmax) := zkm_at (k := 160) rfl
theorem zkm_11_227 : zkm 11 227 = some (1, 2, 11, mX10_isMirrored) := zkm_at (k := 161) rfl
theorem zkm_11_230 : zkm 11 230 = some (1, 1, 11, mX10_steepness) := zkm_at (k := 162) rfl
theorem zkm_11_233 : zkm 11 233 = some (1, 1, 11, mX10_valueAt) := zkm_at (k := 163) rfl
theorem zkm_11_236 : zkm 11 236 = some (1, 1, 11, mX10_setUp) := zkm_at (k := 164) rfl
theorem zkm_11_239 : zkm 11 239 = some (1, 2, 11, mX10_exchange) := zkm_at (k := 165) rfl
theorem zkm_11_242 : zkm 11 242 = some (1, 0, 11, mX10_termCount) := zkm_at (k := 166) rfl
theorem zkm_11_246 : zkm 11 246 = some (1, 1, 11, mX10_solve) := zkm_at (k := 167) rfl
theorem zkm_11_249 : zkm 11 249 = some (0, 1, 0, mX10_isSlot) := zkm_at (k := 168) rfl
theorem zkm_11_261 : zkm 11 261 = some (1, 2, 11, mX10_isAt) := zkm_at (k := 169) rfl
theorem zkm_11_267 : zkm 11 267 = some (1, 0, 11, mX10_takesNumber) := zkm_at (k := 170) rfl
theorem zkm_11_271 : zkm 11 271 = some (1, 2, 11, mX10_addPoint) := zkm_at (k := 171) rfl
theorem zkm_11_274 : zkm 11 274 = some (1, 1, 11, mX10_takesPoint) := zkm_at (k := 172) rfl
theorem zkm_11_278 : zkm 11 278 = some (1, 1, 11, mX10_takesList) := zkm_at (k := 173) rfl
theorem zkm_11_284 : zkm 11 284 = some (1, 1, 11, mX10_write) := zkm_at (k := 174) rfl
theorem zkm_11_287 : zkm 11 287 = some (1, 2, 11, mX10_writeTerm) := zkm_at (k := 175) rfl
theorem zkm_11_290 : zkm 11 290 = some (1, 2, 11, mX10_element) := zkm_at (k := 176) rfl
theorem zkm_11_293 : zkm 11 293 = some (1, 2, 11, mX10_amiss) := zkm_at (k := 177) rfl
theorem zkm_20_9 : zkm 20 9 = some (2, 0, 0, mX9_init) := zkm_at (k := 178) rfl
theorem zkm_20_12 : zkm 20 12 = some (2, 0, 0, mX10_init) := zkm_at (k := 179) rfl
theorem zkm_20_13 : zkm 20 13 = some (1, 1, 10, mX9_setPrime) := zkm_at (k := 180) rfl
theorem zkm_20_17 : zkm 20 17 = some (1, 1, 11, mX10_setPrime) := zkm_at (k := 181) rfl
theorem zkm_20_18 : zkm 20 18 = some (1, 0, 10, mX9_prime) := zkm_at (k := 182) rfl
theorem zkm_20_22 : zkm 20 22 = some (1, 0, 11, mX10_prime) := zkm_at (k := 183) rfl
theorem zkm_20_23 : zkm 20 23 = some (1, 2, 10, mX9_addPoint) := zkm_at (k := 184) rfl
theorem zkm_20_27 : zkm 20 27 = some (1, 2, 11, mX10_addPoint) := zkm_at (k := 185) rfl
theorem zkm_20_28 : zkm 20 28 = some (1, 1, 10, mX9_removePoint) := zkm_at (k := 186) rfl
theorem zkm_20_31 : zkm 20 31 = some (1, 1, 11, mX10_removePoint) := zkm_at (k := 187) rfl
theorem zkm_20_32 : zkm 20 32 = some (1, 0, 10, mX9_pointCount) := zkm_at (k := 188) rfl
theorem zkm_20_35 : zkm 20 35 = some (1, 0, 11, mX10_pointCount) := zkm_at (k := 189) rfl
theorem zkm_20_36 : zkm 20 36 = some (1, 1, 10, mX9_pointX) := zkm_at (k := 190) rfl
theorem zkm_20_39 : zkm 20 39 = some (1, 1, 11, mX10_pointX) := zkm_at (k := 191) rfl
theorem zkm_20_40 : zkm 20 40 = some (1, 1, 10, mX9_pointY) := zkm_at (k := 192) rfl
theorem zkm_20_43 : zkm 20 43 = some (1, 1, 11, mX10_pointY) := zkm_at (k := 193) rfl
theorem zkm_20_44 : zkm 20 44 = some (1, 0, 10, mX9_swapCoordinates) := zkm_at (k := 194) rfl
theorem zkm_20_47 : zkm 20 47 = some (1, 0, 11, mX10_swapCoordinates) := zkm_at (k := 195) rfl
theorem zkm_20_48 : zkm 20 48 = some (1, 2, 10, mX9_translate) := zkm_at (k := 196) rfl
theorem zkm_20_51 : zkm 20 51 = some (1, 2, 11, mX10_translate) := zkm_at (k := 197) rfl
theorem zkm_20_52 : zkm 20 52 = some (1, 2, 10, mX9_scale) := zkm_at (k := 198) rfl
theorem zkm_20_55 : zkm 20 55 = some (1, 2, 11, mX10_scale) := zkm_at (k := 199) rfl
theorem zkm_20_56 : zkm 20 56 = some (1, 4, 10, mX9_columnHeight) := zkm_at (k := 200) rfl
theorem zkm_20_60 : zkm 20 60 = some (1, 4, 11, mX10_columnHeight) := zkm_at (k := 201) rfl
theorem zkm_20_61 : zkm 20 61 = some (1, 3, 10, mX9_cornerCount) := zkm_at (k := 202) rfl
theorem zkm_20_65 : zkm 20 65 = some (1, 3, 11, mX10_cornerCount) := zkm_at (k := 203) rfl
theorem zkm_20_66 : zkm 20 66 = some (1, 4, 10, mX9_corner) := zkm_at (k := 204) rfl
theorem zkm_20_69 : zkm 20 69 = some (1, 4, 11, mX10_corner) := zkm_at (k := 205) rfl
theorem zkm_20_70 : zkm 20 70 = some (1, 0, 10, mX9_coneCount) := zkm_at (k := 206) rfl
theorem zkm_20_73 : zkm 20 73 = some (1, 0, 11, mX10_coneCount) := zkm_at (k := 207) rfl
theorem zkm_20_74 : zkm 20 74 = some (1, 1, 10, mX9_wallNumerator) := zkm_at (k := 208) rfl
theorem zkm_20_77 : zkm 20 77 = some (1, 1, 11, mX10_wallNumerator) := zkm_at (k := 209) rfl
theorem zkm_20_78 : zkm 20 78 = some (1, 1, 10, mX9_wallDenominator) := zkm_at (k := 210) rfl
theorem zkm_20_81 : zkm 20 81 = some (1, 1, 11, mX10_wallDenominator) := zkm_at (k := 211) rfl
theorem zkm_20_82 : zkm 20 82 = some (1, 2, 10, mX9_firstConeContaining) := zkm_at (k := 212) rfl
theorem zkm_20_85 : zkm 20 85 = some (1, 2, 11, mX10_firstConeContaining) := zkm_at (k := 213) rfl
theorem zkm_20_86 : zkm 20 86 = some (1, 2, 10, mX9_conesContaining) := zkm_at (k := 214) rfl
theorem zkm_20_89 : zkm 20 89 = some (1, 2, 11, mX10_conesContaining) := zkm_at (k := 215) rfl
theorem zkm_20_90 : zkm 20 90 = some (1, 2, 10, mX9_coneHeight) := zkm_at (k := 216) rfl
theorem zkm_20_93 : zkm 20 93 = some (1, 2, 11, mX10_coneHeight) := zkm_at (k := 217) rfl
theorem zkm_20_94 : zkm 20 94 = some (1, 1, 10, mX9_basisSize) := zkm_at (k := 218) rfl
theorem zkm_20_97 : zkm 20 97 = some (1, 1, 11, mX10_basisSize) := zkm_at (k := 219) rfl
theorem zkm_20_98 : zkm 20 98 = some (1, 2, 10, mX9_basisCorner) := zkm_at (k := 220) rfl
theorem zkm_20_101 : zkm 20 101 = some (1, 2, 11, mX10_basisCorner) := zkm_at (k := 221) rfl
theorem zkm_20_102 : zkm 20 102 = some (1, 4, 10, mX9_basisCoefficient) := zkm_at (k := 222) rfl
theorem zkm_20_105 : zkm 20 105 = some (1, 4, 11, mX10_basisCoefficient) := zkm_at (k := 223) rfl
theorem zkm_20_106 : zkm 20 106 = some (1, 1, 10, mX9_changedCorners) := zkm_at (k := 224) rfl
theorem zkm_20_109 : zkm 20 109 = some (1, 1, 11, mX10_changedCorners) := zkm_at (k := 225) rfl
theorem zkm_20_110 : zkm 20 110 = some (1, 0, 10, mX9_universalSize) := zkm_at (k := 226) rfl
theorem zkm_20_113 : zkm 20 113 = some (1, 0, 11, mX10_universalSize) := zkm_at (k := 227) rfl
theorem zkm_20_114 : zkm 20 114 = some (1, 0, 10, mX9_universalDegree) := zkm_at (k := 228) rfl
theorem zkm_20_117 : zkm 20 117 = some (1, 0, 11, mX10_universalDegree) := zkm_at (k := 229) rfl
theorem zkm_20_118 : zkm 20 118 = some (1, 1, 10, mX9_mirroredCone) := zkm_at (k := 230) rfl
theorem zkm_20_121 : zkm 20 121 = some (1, 1, 11, mX10_mirroredCone) := zkm_at (k := 231) rfl
theorem zkm_20_122 : zkm 20 122 = some (1, 0, 10, mX9_flattestCone) := zkm_at (k := 232) rfl
theorem zkm_20_125 : zkm 20 125 = some (1, 0, 11, mX10_flattestCone) := zkm_at (k := 233) rfl
theorem zkm_20_126 : zkm 20 126 = some (1, 3, 10, mX9_setCoefficient) := zkm_at (k := 234) rfl
theorem zkm_20_129 : zkm 20 129 = some (1, 3, 11, mX10_setCoefficient) := zkm_at (k := 235) rfl
theorem zkm_20_130 : zkm 20 130 = some (1, 2, 10, mX9_coefficient) := zkm_at (k := 236) rfl
theorem zkm_20_133 : zkm 20 133 = some (1, 2, 11, mX10_coefficient) := zkm_at (k := 237) rfl
theorem zkm_20_134 : zkm 20 134 = some (1, 0, 10, mX9_termCount) := zkm_at (k := 238) rfl
theorem zkm_20_137 : zkm 20 137 = some (1, 0, 11, mX10_termCount) := zkm_at (k := 239) rfl
theorem zkm_20_138 : zkm 20 138 = some (1, 1, 10, mX9_evaluate) := zkm_at (k := 240) rfl
theorem zkm_20_141 : zkm 20 141 = some (1, 1, 11, mX10_evaluate) := zkm_at (k := 241) rfl
theorem zkm_20_142 : zkm 20 142 = some (1, 0, 10, mX9_isVanishing) := zkm_at (k := 242) rfl
theorem zkm_20_145 : zkm 20 145 = some (1, 0, 11, mX10_isVanishing) := zkm_at (k := 243) rfl
theorem zkm_20_146 : zkm 20 146 = some (1, 1, 10, mX9_reduceToNormalForm) := zkm_at (k := 244) rfl
theorem zkm_20_149 : zkm 20 149 = some (1, 1, 11, mX10_reduceToNormalForm) := zkm_at (k := 245) rfl
theorem zkm_20_150 : zkm 20 150 = some (1, 2, 10, mX9_interpolate) := zkm_at (k := 246) rfl
theorem zkm_20_153 : zkm 20 153 = some (1, 2, 11, mX10_interpolate) := zkm_at (k := 247) rfl
theorem zkm_20_154 : zkm 20 154 = some (1, 2, 10, mX9_loadBasisPolynomial) := zkm_at (k := 248) rfl
theorem zkm_20_157 : zkm 20 157 = some (1, 2, 11, mX10_loadBasisPolynomial) := zkm_at (k := 249) rfl
theorem zkm_20_158 : zkm 20 158 = some (1, 1, 10, mX9_appendInput) := zkm_at (k := 250) rfl
theorem zkm_20_161 : zkm 20 161 = some (1, 1, 11, mX10_appendInput) := zkm_at (k := 251) rfl
theorem zkm_20_162 : zkm 20 162 = some (1, 0, 10, mX9_inputLength) := zkm_at (k := 252) rfl
theorem zkm_20_165 : zkm 20 165 = some (1, 0, 11, mX10_inputLength) := zkm_at (k := 253) rfl
theorem zkm_20_166 : zkm 20 166 = some (1, 0, 10, mX9_parsePoints) := zkm_at (k := 254) rfl
theorem zkm_20_169 : zkm 20 169 = some (1, 0, 11, mX10_parsePoints) := zkm_at (k := 255) rfl
theorem zkm_20_170 : zkm 20 170 = some (1, 2, 10, mX9_format) := zkm_at (k := 256) rfl
theorem zkm_20_173 : zkm 20 173 = some (1, 2, 11, mX10_format) := zkm_at (k := 257) rfl
theorem zkm_20_174 : zkm 20 174 = some (1, 1, 10, mX9_outputByte) := zkm_at (k := 258) rfl
theorem zkm_20_177 : zkm 20 177 = some (1, 1, 11, mX10_outputByte) := zkm_at (k := 259) rfl
theorem zkm_20_178 : zkm 20 178 = some (1, 2, 10, mX9_newArray) := zkm_at (k := 260) rfl
theorem zkm_20_181 : zkm 20 181 = some (1, 2, 11, mX10_newArray) := zkm_at (k := 261) rfl
theorem zkm_20_182 : zkm 20 182 = some (1, 3, 10, mX9_setElement) := zkm_at (k := 262) rfl
theorem zkm_20_185 : zkm 20 185 = some (1, 3, 11, mX10_setElement) := zkm_at (k := 263) rfl
theorem zkm_20_186 : zkm 20 186 = some (1, 2, 10, mX9_element) := zkm_at (k := 264) rfl
theorem zkm_20_189 : zkm 20 189 = some (1, 2, 11, mX10_element) := zkm_at (k := 265) rfl
theorem zkm_20_190 : zkm 20 190 = some (1, 1, 10, mX9_storePolynomial) := zkm_at (k := 266) rfl
theorem zkm_20_193 : zkm 20 193 = some (1, 1, 11, mX10_storePolynomial) := zkm_at (k := 267) rfl
theorem zkm_20_194 : zkm 20 194 = some (1, 1, 10, mX9_loadPolynomial) := zkm_at (k := 268) rfl
theorem zkm_20_197 : zkm 20 197 = some (1, 1, 11, mX10_loadPolynomial) := zkm_at (k := 269) rfl
theorem zkm_20_198 : zkm 20 198 = some (1, 1, 10, mX9_clearSlot) := zkm_at (k := 270) rfl
theorem zkm_20_201 : zkm 20 201 = some (1, 1, 11, mX10_clearSlot) := zkm_at (k := 271) rfl
theorem zkm_20_202 : zkm 20 202 = some (1, 2, 10, mX9_firstDifference) := zkm_at (k := 272) rfl
theorem zkm_20_205 : zkm 20 205 = some (1, 2, 11, mX10_firstDifference) := zkm_at (k := 273) rfl
theorem zkm_20_206 : zkm 20 206 = some (1, 0, 10, mX9_saveSnapshot) := zkm_at (k := 274) rfl
theorem zkm_20_209 : zkm 20 209 = some (1, 0, 11, mX10_saveSnapshot) := zkm_at (k := 275) rfl
theorem zkm_20_210 : zkm 20 210 = some (1, 0, 10, mX9_restoreSnapshot) := zkm_at (k := 276) rfl
theorem zkm_20_213 : zkm 20 213 = some (1, 0, 11, mX10_restoreSnapshot) := zkm_at (k := 277) rfl
theorem zkm_21_1059 : zkm 21 1059 = some (0, 3, 0, mJ3_checkIndex_8e157) := zkm_at (k := 278) rfl
theorem zkm_25_3 : zkm 25 3 = some (6, 0, 0, mJmax) := zkm_at (k := 279) rfl
theorem zkm_25_83 : zkm 25 83 = some (4, 0, 0, mJ5_isLatin1_aae02) := zkm_at (k := 280) rfl
theorem zkm_25_100 : zkm 25 100 = some (4, 1, 0, mJ5_ensureCapacityInternal_d00df) := zkm_at (k := 281) rfl
theorem zkm_25_104 : zkm 25 104 = some (4, 1, 0, mJ5_newCapacity_0f7a4) := zkm_at (k := 282) rfl
theorem zkm_25_108 : zkm 25 108 = some (0, 2, 0, mJ7_copyOf_9075b) := zkm_at (k := 283) rfl
theorem zkm_25_114 : zkm 25 114 = some (0, 3, 0, mJ8_newLength_cabcc) := zkm_at (k := 284) rfl
theorem zkm_25_138 : zkm 25 138 = some (0, 2, 0, mJmin) := zkm_at (k := 285) rfl
theorem zkm_25_144 : zkm 25 144 = some (0, 2, 0, mJ0_checkIndex_df160) := zkm_at (k := 286) rfl
theorem zkm_25_191 : zkm 25 191 = some (0, 1, 0, mJ1_canEncode_fc78d) := zkm_at (k := 287) rfl
theorem zkm_25_245 : zkm 25 245 = some (0, 1, 0, mJ6_stringSize_0f7a4) := zkm_at (k := 288) rfl
theorem zkm_25_248 : zkm 25 248 = some (0, 3, 0, mJ6_getChars_ba4f3) := zkm_at (k := 289) rfl
theorem zkm_27_150 : zkm 27 150 = some (7, 5, 0, mJmax) := zkm_at (k := 290) rfl
theorem zkm_27_304 : zkm 27 304 = some (0, 2, 0, mJmin) := zkm_at (k := 291) rfl
theorem zkm_28_194 : zkm 28 194 = some (0, 2, 0, mJmax) := zkm_at (k := 292) rfl
def zkfL : List ((Nat × Nat) × (Nat × Nat)) := [((1, 9), (1, 0)), ((1, 15), (1, 1)), ((1, 18), (1, 2)), ((1, 22), (1, 3)), ((1, 29), (2, 4)), ((1, 32), (2, 7)), ((1, 35), (2, 5)), ((1, 36), (2, 0)), ((1, 40), (6, 0)), ((2, 11), (2, 1)), ((2, 16), (2, 2)), ((2, 19), (2, 3)), ((2, 23), (2, 4)), ((2, 27), (2, 5)), ((2, 30), (2, 6)), ((2, 33), (2, 7)), ((2, 36), (2, 0)), ((2, 43), (8, 0)), ((2, 52), (6, 1)), ((2, 76), (6, 0)), ((3, 9), (3, 0)), ((3, 17), (3, 1)), ((3, 36), (8, 4)), ((3, 39), (8, 3)), ((3, 46), (8, 1)), ((3, 47), (8, 2)), ((4, 9), (4, 0)), ((4, 15), (4, 1)), ((4, 19), (4, 2)), ((4, 22), (4, 3)), ((5, 9), (5, 0)), ((5, 15), (5, 1)), ((5, 18), (5, 2)), ((6, 9), (6, 0)), ((6, 15), (6, 1)), ((6, 18), (6, 2)), ((6, 22), (6, 3)), ((7, 9), (7, 0)), ((7, 27), (6, 3)), ((7, 32), (6, 0)), ((7, 36), (6, 2)), ((8, 9), (8, 0)), ((8, 15), (8, 1)), ((8, 21), (8, 2)), ((8, 25), (8, 3)), ((8, 28), (8, 4)), ((8, 71), (1, 0)), ((8, 81), (1, 1)), ((8, 82), (1, 2)), ((9, 11), (9, 0)), ((9, 15), (9, 1)), ((9, 18), (9, 2)), ((9, 28), (7, 0)), ((10, 12), (10, 0)), ((10, 19), (10, 1)), ((10, 23), (10, 2)), ((10, 26), (10, 3)), ((10, 29), (10, 4)), ((10, 38), (10, 5)), ((10, 45), (10, 6)), ((10, 52), (10, 7)), ((10, 59), (10, 8)), ((10, 66), (10, 9)), ((10, 73), (10, 10)), ((10, 79), (10, 11)), ((10, 88), (6, 0)), ((10, 109), (6, 1)), ((10, 122), (6, 2)), ((10, 126), (6, 3)), ((10, 151), (8, 0)), ((10, 154), (8, 1)), ((10, 159), (1, 0)), ((10, 171), (3, 0)), ((10, 179), (8, 3)), ((10, 182), (8, 4)), ((10, 221), (7, 0)), ((10, 238), (2, 6)), ((10, 248), (9, 0)), ((10, 254), (9, 1)), ((10, 257), (9, 2)), ((10, 260), (1, 1)), ((10, 261), (1, 2)), ((10, 264), (1, 3)), ((10, 265), (4, 0)), ((10, 271), (4, 2)), ((10, 274), (4, 3)), ((10, 321), (2, 4)), ((10, 322), (2, 5)), ((10, 323), (2, 7)), ((11, 7), (11, 0)), ((11, 13), (11, 2)), ((11, 17), (11, 3)), ((11, 20), (11, 4)), ((11, 23), (11, 6)), ((11, 26), (11, 7)), ((11, 30), (11, 9)), ((11, 33), (11, 10)), ((11, 36), (11, 11)), ((11, 39), (11, 12)), ((11, 42), (11, 13)), ((11, 45), (11, 14)), ((11, 48), (11, 15)), ((11, 51), (11, 17)), ((11, 54), (11, 18)), ((11, 57), (11, 20)), ((11, 60), (11, 21)), ((11, 63), (11, 22)), ((11, 66), (11, 23)), ((11, 69), (11, 24)), ((11, 72), (11, 25)), ((11, 75), (11, 26)), ((11, 78), (11, 27)), ((11, 81), (11, 28)), ((11, 84), (11, 29)), ((11, 87), (11, 34)), ((11, 90), (11, 36)), ((11, 93), (11, 37)), ((11, 96), (11, 38)), ((11, 99), (11, 39)), ((11, 102), (11, 43)), ((11, 105), (11, 44)), ((11, 108), (11, 45)), ((11, 111), (11, 1)), ((11, 122), (11, 5)), ((11, 140), (11, 8)), ((11, 152), (11, 16)), ((11, 195), (11, 19)), ((11, 252), (11, 30)), ((11, 255), (11, 32)), ((11, 258), (11, 31)), ((11, 264), (11, 33)), ((11, 281), (11, 35)), ((11, 296), (11, 40)), ((11, 299), (11, 41)), ((11, 302), (11, 42)), ((25, 15), (0, 0)), ((25, 22), (0, 1)), ((25, 73), (0, 2)), ((25, 79), (0, 3))]
def zkf (c i : Nat) : Option (Nat × Nat) := (zkfL.find? (fun r => r.1.1 == c && r.1.2 == i)).map (fun r => r.2)
theorem zkf_nd : (zkfL.map (fun r => r.1)).Nodup := by decide +kernel
theorem zkf_at {k c i : Nat} {v : Nat × Nat} (h : zkfL[k]? = some ((c, i), v)) : zkf c i = some v := z_find zkf_nd h
theorem zkf_mem {c i : Nat} {v : Nat × Nat} (h : zkf c i = some v) : ((c, i), v) ∈ zkfL := z_found h
theorem zkf_1_9 : zkf 1 9 = some (1, 0) := zkf_at (k := 0) rfl
theorem zkf_1_15 : zkf 1 15 = some (1, 1) := zkf_at (k := 1) rfl
theorem zkf_1_18 : zkf 1 18 = some (1, 2) := zkf_at (k := 2) rfl
theorem zkf_1_22 : zkf 1 22 = some (1, 3) := zkf_at (k := 3) rfl
theorem zkf_1_29 : zkf 1 29 = some (2, 4) := zkf_at (k := 4) rfl
theorem zkf_1_32 : zkf 1 32 = some (2, 7) := zkf_at (k := 5) rfl
theorem zkf_1_35 : zkf 1 35 = some (2, 5) := zkf_at (k := 6) rfl
theorem zkf_1_36 : zkf 1 36 = some (2, 0) := zkf_at (k := 7) rfl
theorem zkf_1_40 : zkf 1 40 = some (6, 0) := zkf_at (k := 8) rfl
theorem zkf_2_11 : zkf 2 11 = some (2, 1) := zkf_at (k := 9) rfl
theorem zkf_2_16 : zkf 2 16 = some (2, 2) := zkf_at (k := 10) rfl
theorem zkf_2_19 : zkf 2 19 = some (2, 3) := zkf_at (k := 11) rfl
theorem zkf_2_23 : zkf 2 23 = some (2, 4) := zkf_at (k := 12) rfl
theorem zkf_2_27 : zkf 2 27 = some (2, 5) := zkf_at (k := 13) rfl
theorem zkf_2_30 : zkf 2 30 = some (2, 6) := zkf_at (k := 14) rfl
theorem zkf_2_33 : zkf 2 33 = some (2, 7) := zkf_at (k := 15) rfl
theorem zkf_2_36 : zkf 2 36 = some (2, 0) := zkf_at (k := 16) rfl
theorem zkf_2_43 : zkf 2 43 = some (8, 0) := zkf_at (k := 17) rfl
theorem zkf_2_52 : zkf 2 52 = some (6, 1) := zkf_at (k := 18) rfl
theorem zkf_2_76 : zkf 2 76 = some (6, 0) := zkf_at (k := 19) rfl
theorem zkf_3_9 : zkf 3 9 = some (3, 0) := zkf_at (k := 20) rfl
theorem zkf_3_17 : zkf 3 17 = some (3, 1) := zkf_at (k := 21) rfl
theorem zkf_3_36 : zkf 3 36 = some (8, 4) := zkf_at (k := 22) rfl
theorem zkf_3_39 : zkf 3 39 = some (8, 3) := zkf_at (k := 23) rfl
theorem zkf_3_46 : zkf 3 46 = some (8, 1) := zkf_at (k := 24) rfl
theorem zkf_3_47 : zkf 3 47 = some (8, 2) := zkf_at (k := 25) rfl
theorem zkf_4_9 : zkf 4 9 = some (4, 0) := zkf_at (k := 26) rfl
theorem zkf_4_15 : zkf 4 15 = some (4, 1) := zkf_at (k := 27) rfl
theorem zkf_4_19 : zkf 4 19 = some (4, 2) := zkf_at (k := 28) rfl
theorem zkf_4_22 : zkf 4 22 = some (4, 3) := zkf_at (k := 29) rfl
theorem zkf_5_9 : zkf 5 9 = some (5, 0) := zkf_at (k := 30) rfl
theorem zkf_5_15 : zkf 5 15 = some (5, 1) := zkf_at (k := 31) rfl
theorem zkf_5_18 : zkf 5 18 = some (5, 2) := zkf_at (k := 32) rfl
theorem zkf_6_9 : zkf 6 9 = some (6, 0) := zkf_at (k := 33) rfl
theorem zkf_6_15 : zkf 6 15 = some (6, 1) := zkf_at (k := 34) rfl
theorem zkf_6_18 : zkf 6 18 = some (6, 2) := zkf_at (k := 35) rfl
theorem zkf_6_22 : zkf 6 22 = some (6, 3) := zkf_at (k := 36) rfl
theorem zkf_7_9 : zkf 7 9 = some (7, 0) := zkf_at (k := 37) rfl
theorem zkf_7_27 : zkf 7 27 = some (6, 3) := zkf_at (k := 38) rfl
theorem zkf_7_32 : zkf 7 32 = some (6, 0) := zkf_at (k := 39) rfl
theorem zkf_7_36 : zkf 7 36 = some (6, 2) := zkf_at (k := 40) rfl
theorem zkf_8_9 : zkf 8 9 = some (8, 0) := zkf_at (k := 41) rfl
theorem zkf_8_15 : zkf 8 15 = some (8, 1) := zkf_at (k := 42) rfl
theorem zkf_8_21 : zkf 8 21 = some (8, 2) := zkf_at (k := 43) rfl
theorem zkf_8_25 : zkf 8 25 = some (8, 3) := zkf_at (k := 44) rfl
theorem zkf_8_28 : zkf 8 28 = some (8, 4) := zkf_at (k := 45) rfl
theorem zkf_8_71 : zkf 8 71 = some (1, 0) := zkf_at (k := 46) rfl
theorem zkf_8_81 : zkf 8 81 = some (1, 1) := zkf_at (k := 47) rfl
theorem zkf_8_82 : zkf 8 82 = some (1, 2) := zkf_at (k := 48) rfl
theorem zkf_9_11 : zkf 9 11 = some (9, 0) := zkf_at (k := 49) rfl
theorem zkf_9_15 : zkf 9 15 = some (9, 1) := zkf_at (k := 50) rfl
theorem zkf_9_18 : zkf 9 18 = some (9, 2) := zkf_at (k := 51) rfl
theorem zkf_9_28 : zkf 9 28 = some (7, 0) := zkf_at (k := 52) rfl
theorem zkf_10_12 : zkf 10 12 = some (10, 0) := zkf_at (k := 53) rfl
theorem zkf_10_19 : zkf 10 19 = some (10, 1) := zkf_at (k := 54) rfl
theorem zkf_10_23 : zkf 10 23 = some (10, 2) := zkf_at (k := 55) rfl
theorem zkf_10_26 : zkf 10 26 = some (10, 3) := zkf_at (k := 56) rfl
theorem zkf_10_29 : zkf 10 29 = some (10, 4) := zkf_at (k := 57) rfl
theorem zkf_10_38 : zkf 10 38 = some (10, 5) := zkf_at (k := 58) rfl
theorem zkf_10_45 : zkf 10 45 = some (10, 6) := zkf_at (k := 59) rfl
theorem zkf_10_52 : zkf 10 52 = some (10, 7) := zkf_at (k := 60) rfl
theorem zkf_10_59 : zkf 10 59 = some (10, 8) := zkf_at (k := 61) rfl
theorem zkf_10_66 : zkf 10 66 = some (10, 9) := zkf_at (k := 62) rfl
theorem zkf_10_73 : zkf 10 73 = some (10, 10) := zkf_at (k := 63) rfl
theorem zkf_10_79 : zkf 10 79 = some (10, 11) := zkf_at (k := 64) rfl
theorem zkf_10_88 : zkf 10 88 = some (6, 0) := zkf_at (k := 65) rfl
theorem zkf_10_109 : zkf 10 109 = some (6, 1) := zkf_at (k := 66) rfl
theorem zkf_10_122 : zkf 10 122 = some (6, 2) := zkf_at (k := 67) rfl
theorem zkf_10_126 : zkf 10 126 = some (6, 3) := zkf_at (k := 68) rfl
theorem zkf_10_151 : zkf 10 151 = some (8, 0) := zkf_at (k := 69) rfl
theorem zkf_10_154 : zkf 10 154 = some (8, 1) := zkf_at (k := 70) rfl
theorem zkf_10_159 : zkf 10 159 = some (1, 0) := zkf_at (k := 71) rfl
theorem zkf_10_171 : zkf 10 171 = some (3, 0) := zkf_at (k := 72) rfl
theorem zkf_10_179 : zkf 10 179 = some (8, 3) := zkf_at (k := 73) rfl
theorem zkf_10_182 : zkf 10 182 = some (8, 4) := zkf_at (k := 74) rfl
theorem zkf_10_221 : zkf 10 221 = some (7, 0) := zkf_at (k := 75) rfl
theorem zkf_10_238 : zkf 10 238 = some (2, 6) := zkf_at (k := 76) rfl
theorem zkf_10_248 : zkf 10 248 = some (9, 0) := zkf_at (k := 77) rfl
theorem zkf_10_254 : zkf 10 254 = some (9, 1) := zkf_at (k := 78) rfl
theorem zkf_10_257 : zkf 10 257 = some (9, 2) := zkf_at (k := 79) rfl
theorem zkf_10_260 : zkf 10 260 = some (1, 1) := zkf_at (k := 80) rfl
theorem zkf_10_261 : zkf 10 261 = some (1, 2) := zkf_at (k := 81) rfl
theorem zkf_10_264 : zkf 10 264 = some (1, 3) := zkf_at (k := 82) rfl
theorem zkf_10_265 : zkf 10 265 = some (4, 0) := zkf_at (k := 83) rfl
theorem zkf_10_271 : zkf 10 271 = some (4, 2) := zkf_at (k := 84) rfl
theorem zkf_10_274 : zkf 10 274 = some (4, 3) := zkf_at (k := 85) rfl
theorem zkf_10_321 : zkf 10 321 = some (2, 4) := zkf_at (k := 86) rfl
theorem zkf_10_322 : zkf 10 322 = some (2, 5) := zkf_at (k := 87) rfl
theorem zkf_10_323 : zkf 10 323 = some (2, 7) := zkf_at (k := 88) rfl
theorem zkf_11_7 : zkf 11 7 = some (11, 0) := zkf_at (k := 89) rfl
theorem zkf_11_13 : zkf 11 13 = some (11, 2) := zkf_at (k := 90) rfl
theorem zkf_11_17 : zkf 11 17 = some (11, 3) := zkf_at (k := 91) rfl
theorem zkf_11_20 : zkf 11 20 = some (11, 4) := zkf_at (k := 92) rfl
theorem zkf_11_23 : zkf 11 23 = some (11, 6) := zkf_at (k := 93) rfl
theorem zkf_11_26 : zkf 11 26 = some (11, 7) := zkf_at (k := 94) rfl
theorem zkf_11_30 : zkf 11 30 = some (11, 9) := zkf_at (k := 95) rfl
theorem zkf_11_33 : zkf 11 33 = some (11, 10) := zkf_at (k := 96) rfl
theorem zkf_11_36 : zkf 11 36 = some (11, 11) := zkf_at (k := 97) rfl
theorem zkf_11_39 : zkf 11 39 = some (11, 12) := zkf_at (k := 98) rfl
theorem zkf_11_42 : zkf 11 42 = some (11, 13) := zkf_at (k := 99) rfl
theorem zkf_11_45 : zkf 11 45 = some (11, 14) := zkf_at (k := 100) rfl
theorem zkf_11_48 : zkf 11 48 = some (11, 15) := zkf_at (k := 101) rfl
theorem zkf_11_51 : zkf 11 51 = some (11, 17) := zkf_at (k := 102) rfl
theorem zkf_11_54 : zkf 11 54 = some (11, 18) := zkf_at (k := 103) rfl
theorem zkf_11_57 : zkf 11 57 = some (11, 20) := zkf_at (k := 104) rfl
theorem zkf_11_60 : zkf 11 60 = some (11, 21) := zkf_at (k := 105) rfl
theorem zkf_11_63 : zkf 11 63 = some (11, 22) := zkf_at (k := 106) rfl
theorem zkf_11_66 : zkf 11 66 = some (11, 23) := zkf_at (k := 107) rfl
theorem zkf_11_69 : zkf 11 69 = some (11, 24) := zkf_at (k := 108) rfl
theorem zkf_11_72 : zkf 11 72 = some (11, 25) := zkf_at (k := 109) rfl
theorem zkf_11_75 : zkf 11 75 = some (11, 26) := zkf_at (k := 110) rfl
theorem zkf_11_78 : zkf 11 78 = some (11, 27) := zkf_at (k := 111) rfl
theorem zkf_11_81 : zkf 11 81 = some (11, 28) := zkf_at (k := 112) rfl
theorem zkf_11_84 : zkf 11 84 = some (11, 29) := zkf_at (k := 113) rfl
theorem zkf_11_87 : zkf 11 87 = some (11, 34) := zkf_at (k := 114) rfl
theorem zkf_11_90 : zkf 11 90 = some (11, 36) := zkf_at (k := 115) rfl
theorem zkf_11_93 : zkf 11 93 = some (11, 37) := zkf_at (k := 116) rfl
theorem zkf_11_96 : zkf 11 96 = some (11, 38) := zkf_at (k := 117) rfl
theorem zkf_11_99 : zkf 11 99 = some (11, 39) := zkf_at (k := 118) rfl
theorem zkf_11_102 : zkf 11 102 = some (11, 43) := zkf_at (k := 119) rfl
theorem zkf_11_105 : zkf 11 105 = some (11, 44) := zkf_at (k := 120) rfl
theorem zkf_11_108 : zkf 11 108 = some (11, 45) := zkf_at (k := 121) rfl
theorem zkf_11_111 : zkf 11 111 = some (11, 1) := zkf_at (k := 122) rfl
theorem zkf_11_122 : zkf 11 122 = some (11, 5) := zkf_at (k := 123) rfl
theorem zkf_11_140 : zkf 11 140 = some (11, 8) := zkf_at (k := 124) rfl
theorem zkf_11_152 : zkf 11 152 = some (11, 16) := zkf_at (k := 125) rfl
theorem zkf_11_195 : zkf 11 195 = some (11, 19) := zkf_at (k := 126) rfl
theorem zkf_11_252 : zkf 11 252 = some (11, 30) := zkf_at (k := 127) rfl
theorem zkf_11_255 : zkf 11 255 = some (11, 32) := zkf_at (k := 128) rfl
theorem zkf_11_258 : zkf 11 258 = some (11, 31) := zkf_at (k := 129) rfl
theorem zkf_11_264 : zkf 11 264 = some (11, 33) := zkf_at (k := 130) rfl
theorem zkf_11_281 : zkf 11 281 = some (11, 35) := zkf_at (k := 131) rfl
theorem zkf_11_296 : zkf 11 296 = some (11, 40) := zkf_at (k := 132) rfl
theorem zkf_11_299 : zkf 11 299 = some (11, 41) := zkf_at (k := 133) rfl
theorem zkf_11_302 : zkf 11 302 = some (11, 42) := zkf_at (k := 134) rfl
theorem zkf_25_15 : zkf 25 15 = some (0, 0) := zkf_at (k := 135) rfl
theorem zkf_25_22 : zkf 25 22 = some (0, 1) := zkf_at (k := 136) rfl
theorem zkf_25_73 : zkf 25 73 = some (0, 2) := zkf_at (k := 137) rfl
theorem zkf_25_79 : zkf 25 79 = some (0, 3) := zkf_at (k := 138) rfl
def zksL : List ((Nat × Nat) × (Nat)) := [((10, 305), 1), ((21, 1053), 4), ((25, 18), 0), ((26, 83), 2), ((26, 87), 3)]
def zks (c i : Nat) : Option (Nat) := (zksL.find? (fun r => r.1.1 == c && r.1.2 == i)).map (fun r => r.2)
theorem zks_nd : (zksL.map (fun r => r.1)).Nodup := by decide +kernel
theorem zks_at {k c i : Nat} {v : Nat} (h : zksL[k]? = some ((c, i), v)) : zks c i = some v := z_find zks_nd h
theorem zks_mem {c i : Nat} {v : Nat} (h : zks c i = some v) : ((c, i), v) ∈ zksL := z_found h
theorem zks_10_305 : zks 10 305 = some 1 := zks_at (k := 0) rfl
theorem zks_21_1053 : zks 21 1053 = some 4 := zks_at (k := 1) rfl
theorem zks_25_18 : zks 25 18 = some 0 := zks_at (k := 2) rfl
theorem zks_26_83 : zks 26 83 = some 2 := zks_at (k := 3) rfl
theorem zks_26_87 : zks 26 87 = some 3 := zks_at (k := 4) rfl
def zkkL : List ((Nat × Nat) × (Nat)) := [((2, 9), 99), ((3, 15), 8), ((8, 19), 1), ((10, 9), 6), ((10, 16), 7), ((10, 33), 2), ((10, 42), 5), ((10, 49), 8), ((10, 56), 3), ((10, 63), 4), ((10, 70), 0), ((10, 77), 9), ((20, 7), 10), ((20, 10), 11)]
def zkk (c i : Nat) : Option (Nat) := (zkkL.find? (fun r => r.1.1 == c && r.1.2 == i)).map (fun r => r.2)
theorem zkk_nd : (zkkL.map (fun r => r.1)).Nodup := by decide +kernel
theorem zkk_at {k c i : Nat} {v : Nat} (h : zkkL[k]? = some ((c, i), v)) : zkk c i = some v := z_find zkk_nd h
theorem zkk_mem {c i : Nat} {v : Nat} (h : zkk c i = some v) : ((c, i), v) ∈ zkkL := z_found h
theorem zkk_2_9 : zkk 2 9 = some 99 := zkk_at (k := 0) rfl
theorem zkk_3_15 : zkk 3 15 = some 8 := zkk_at (k := 1) rfl
theorem zkk_8_19 : zkk 8 19 = some 1 := zkk_at (k := 2) rfl
theorem zkk_10_9 : zkk 10 9 = some 6 := zkk_at (k := 3) rfl
theorem zkk_10_16 : zkk 10 16 = some 7 := zkk_at (k := 4) rfl
theorem zkk_10_33 : zkk 10 33 = some 2 := zkk_at (k := 5) rfl
theorem zkk_10_42 : zkk 10 42 = some 5 := zkk_at (k := 6) rfl
theorem zkk_10_49 : zkk 10 49 = some 8 := zkk_at (k := 7) rfl
theorem zkk_10_56 : zkk 10 56 = some 3 := zkk_at (k := 8) rfl
theorem zkk_10_63 : zkk 10 63 = some 4 := zkk_at (k := 9) rfl
theorem zkk_10_70 : zkk 10 70 = some 0 := zkk_at (k := 10) rfl
theorem zkk_10_77 : zkk 10 77 = some 9 := zkk_at (k := 11) rfl
theorem zkk_20_7 : zkk 20 7 = some 10 := zkk_at (k := 12) rfl
theorem zkk_20_10 : zkk 20 10 = some 11 := zkk_at (k := 13) rfl
def zkcL : List ((Nat × Nat) × (Int)) := [((25, 39), 2147483647), ((28, 200), 2147483639)]
def zkc (c i : Nat) : Option (Int) := (zkcL.find? (fun r => r.1.1 == c && r.1.2 == i)).map (fun r => r.2)
theorem zkc_nd : (zkcL.map (fun r => r.1)).Nodup := by decide +kernel
theorem zkc_at {k c i : Nat} {v : Int} (h : zkcL[k]? = some ((c, i), v)) : zkc c i = some v := z_find zkc_nd h
theorem zkc_mem {c i : Nat} {v : Int} (h : zkc c i = some v) : ((c, i), v) ∈ zkcL := z_found h
theorem zkc_25_39 : zkc 25 39 = some 2147483647 := zkc_at (k := 0) rfl
theorem zkc_28_200 : zkc 28 200 = some 2147483639 := zkc_at (k := 1) rfl
end
