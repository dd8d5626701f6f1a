-- ===== PART A: goes FIRST, ahead of the names: the tables' words, and 'selects' of the private methods out of them =====
/-- a private method of a class that the tables say can be made, by its rows of tables_1 -/
def lw_okq (q : MethodName × Nat) : Prop := (q.1.cls ≠ "java/lang/invoke/MethodHandle" ∧ q.1.cls ≠ "java/lang/invoke/VarHandle") ∧ Cond.instantiable q.1.cls q.2 ∈ tables_1 ∧ Cond.privateMethod q.1 ∈ tables_1 ∧ Cond.instanceMethod q.1 ∈ tables_1
theorem lw_p0 : lw_okq (⟨"GroebnerFan$ReducedBasis", "nextColumn", "(LGroebnerFan$Order;)I"⟩, 5) := ⟨⟨by decide +kernel, by decide +kernel⟩, List.mem_of_getElem? (i := 118) (by decide +kernel), List.mem_of_getElem? (i := 322) (by decide +kernel), List.mem_of_getElem? (i := 323) (by decide +kernel)⟩
theorem lw_p1 : lw_okq (⟨"GroebnerFan$ReducedBasis", "isClosed", "(I)Z"⟩, 5) := ⟨⟨by decide +kernel, by decide +kernel⟩, List.mem_of_getElem? (i := 118) (by decide +kernel), List.mem_of_getElem? (i := 326) (by decide +kernel), List.mem_of_getElem? (i := 327) (by decide +kernel)⟩
theorem lw_p2 : lw_okq (⟨"GroebnerFan$ReducedBasis", "topOf", "(I)I"⟩, 5) := ⟨⟨by decide +kernel, by decide +kernel⟩, List.mem_of_getElem? (i := 118) (by decide +kernel), List.mem_of_getElem? (i := 330) (by decide +kernel), List.mem_of_getElem? (i := 331) (by decide +kernel)⟩
theorem lw_p3 : lw_okq (⟨"GroebnerFan$Order", "weightOf", "(I)I"⟩, 3) := ⟨⟨by decide +kernel, by decide +kernel⟩, List.mem_of_getElem? (i := 102) (by decide +kernel), List.mem_of_getElem? (i := 338) (by decide +kernel), List.mem_of_getElem? (i := 339) (by decide +kernel)⟩
theorem lw_p4 : lw_okq (⟨"GroebnerFan$Points", "power", "(II)I"⟩, 4) := ⟨⟨by decide +kernel, by decide +kernel⟩, List.mem_of_getElem? (i := 26) (by decide +kernel), List.mem_of_getElem? (i := 350) (by decide +kernel), List.mem_of_getElem? (i := 351) (by decide +kernel)⟩
theorem lw_p5 : lw_okq (⟨"GroebnerFan$Elimination", "addMultiple", "([I[II)V"⟩, 8) := ⟨⟨by decide +kernel, by decide +kernel⟩, List.mem_of_getElem? (i := 65) (by decide +kernel), List.mem_of_getElem? (i := 359) (by decide +kernel), List.mem_of_getElem? (i := 360) (by decide +kernel)⟩
theorem lw_p6 : lw_okq (⟨"GroebnerFan$Elimination", "firstNonzeroValue", "()I"⟩, 8) := ⟨⟨by decide +kernel, by decide +kernel⟩, List.mem_of_getElem? (i := 65) (by decide +kernel), List.mem_of_getElem? (i := 363) (by decide +kernel), List.mem_of_getElem? (i := 364) (by decide +kernel)⟩
theorem lw_p7 : lw_okq (⟨"GroebnerFan$Elimination", "keepValues", "(II)V"⟩, 8) := ⟨⟨by decide +kernel, by decide +kernel⟩, List.mem_of_getElem? (i := 65) (by decide +kernel), List.mem_of_getElem? (i := 367) (by decide +kernel), List.mem_of_getElem? (i := 368) (by decide +kernel)⟩
theorem lw_p8 : lw_okq (⟨"GroebnerFan$ReducedBasis", "insertCorner", "(ILGroebnerFan$Elimination;)V"⟩, 5) := ⟨⟨by decide +kernel, by decide +kernel⟩, List.mem_of_getElem? (i := 118) (by decide +kernel), List.mem_of_getElem? (i := 375) (by decide +kernel), List.mem_of_getElem? (i := 376) (by decide +kernel)⟩
theorem lw_p9 : lw_okq (⟨"GroebnerFan$BasisPolynomial", "insertTerm", "(II)V"⟩, 4) := ⟨⟨by decide +kernel, by decide +kernel⟩, List.mem_of_getElem? (i := 125) (by decide +kernel), List.mem_of_getElem? (i := 383) (by decide +kernel), List.mem_of_getElem? (i := 384) (by decide +kernel)⟩
theorem lw_p10 : lw_okq (⟨"GroebnerFan$ReducedBasis", "findWall", "()V"⟩, 5) := ⟨⟨by decide +kernel, by decide +kernel⟩, List.mem_of_getElem? (i := 118) (by decide +kernel), List.mem_of_getElem? (i := 387) (by decide +kernel), List.mem_of_getElem? (i := 388) (by decide +kernel)⟩
theorem lw_p11 : lw_okq (⟨"GroebnerFan$ReducedBasis", "lowerWall", "(LGroebnerFan$BasisPolynomial;)V"⟩, 5) := ⟨⟨by decide +kernel, by decide +kernel⟩, List.mem_of_getElem? (i := 118) (by decide +kernel), List.mem_of_getElem? (i := 391) (by decide +kernel), List.mem_of_getElem? (i := 392) (by decide +kernel)⟩
theorem lw_p12 : lw_okq (⟨"GroebnerFan", "findCone", "(I)LGroebnerFan$ReducedBasis;"⟩, 12) := ⟨⟨by decide +kernel, by decide +kernel⟩, List.mem_of_getElem? (i := 18) (by decide +kernel), List.mem_of_getElem? (i := 404) (by decide +kernel), List.mem_of_getElem? (i := 405) (by decide +kernel)⟩
theorem lw_p13 : lw_okq (⟨"GroebnerFan", "findBasisPolynomial", "(II)LGroebnerFan$BasisPolynomial;"⟩, 12) := ⟨⟨by decide +kernel, by decide +kernel⟩, List.mem_of_getElem? (i := 18) (by decide +kernel), List.mem_of_getElem? (i := 444) (by decide +kernel), List.mem_of_getElem? (i := 445) (by decide +kernel)⟩
theorem lw_p14 : lw_okq (⟨"GroebnerFan$ReducedBasis", "hasCorner", "(I)Z"⟩, 5) := ⟨⟨by decide +kernel, by decide +kernel⟩, List.mem_of_getElem? (i := 118) (by decide +kernel), List.mem_of_getElem? (i := 474) (by decide +kernel), List.mem_of_getElem? (i := 475) (by decide +kernel)⟩
theorem lw_p15 : lw_okq (⟨"GroebnerFan", "computeOrder", "(III)V"⟩, 12) := ⟨⟨by decide +kernel, by decide +kernel⟩, List.mem_of_getElem? (i := 18) (by decide +kernel), List.mem_of_getElem? (i := 581) (by decide +kernel), List.mem_of_getElem? (i := 582) (by decide +kernel)⟩
def lw_privs_1 : List (MethodName × Nat) := [(⟨"GroebnerFan$ReducedBasis", "nextColumn", "(LGroebnerFan$Order;)I"⟩, 5), (⟨"GroebnerFan$ReducedBasis", "isClosed", "(I)Z"⟩, 5), (⟨"GroebnerFan$ReducedBasis", "topOf", "(I)I"⟩, 5), (⟨"GroebnerFan$Order", "weightOf", "(I)I"⟩, 3), (⟨"GroebnerFan$Points", "power", "(II)I"⟩, 4), (⟨"GroebnerFan$Elimination", "addMultiple", "([I[II)V"⟩, 8), (⟨"GroebnerFan$Elimination", "firstNonzeroValue", "()I"⟩, 8), (⟨"GroebnerFan$Elimination", "keepValues", "(II)V"⟩, 8), (⟨"GroebnerFan$ReducedBasis", "insertCorner", "(ILGroebnerFan$Elimination;)V"⟩, 5), (⟨"GroebnerFan$BasisPolynomial", "insertTerm", "(II)V"⟩, 4), (⟨"GroebnerFan$ReducedBasis", "findWall", "()V"⟩, 5), (⟨"GroebnerFan$ReducedBasis", "lowerWall", "(LGroebnerFan$BasisPolynomial;)V"⟩, 5), (⟨"GroebnerFan", "findCone", "(I)LGroebnerFan$ReducedBasis;"⟩, 12), (⟨"GroebnerFan", "findBasisPolynomial", "(II)LGroebnerFan$BasisPolynomial;"⟩, 12), (⟨"GroebnerFan$ReducedBasis", "hasCorner", "(I)Z"⟩, 5), (⟨"GroebnerFan", "computeOrder", "(III)V"⟩, 12)]
theorem lw_r1 : ∀ q ∈ lw_privs_1, lw_okq q := List.forall_mem_cons.mpr ⟨lw_p0, List.forall_mem_cons.mpr ⟨lw_p1, List.forall_mem_cons.mpr ⟨lw_p2, List.forall_mem_cons.mpr ⟨lw_p3, List.forall_mem_cons.mpr ⟨lw_p4, List.forall_mem_cons.mpr ⟨lw_p5, List.forall_mem_cons.mpr ⟨lw_p6, List.forall_mem_cons.mpr ⟨lw_p7, List.forall_mem_cons.mpr ⟨lw_p8, List.forall_mem_cons.mpr ⟨lw_p9, List.forall_mem_cons.mpr ⟨lw_p10, List.forall_mem_cons.mpr ⟨lw_p11, List.forall_mem_cons.mpr ⟨lw_p12, List.forall_mem_cons.mpr ⟨lw_p13, List.forall_mem_cons.mpr ⟨lw_p14, List.forall_mem_cons.mpr ⟨lw_p15, fun _ h => absurd h List.not_mem_nil⟩⟩⟩⟩⟩⟩⟩⟩⟩⟩⟩⟩⟩⟩⟩⟩
theorem lw_p16 : lw_okq (⟨"GroebnerFan$Fan", "isBefore", "(ILGroebnerFan$BasisPolynomial;)Z"⟩, 2) := ⟨⟨by decide +kernel, by decide +kernel⟩, List.mem_of_getElem? (i := 175) (by decide +kernel), List.mem_of_getElem? (i := 626) (by decide +kernel), List.mem_of_getElem? (i := 627) (by decide +kernel)⟩
def lw_privs_2 : List (MethodName × Nat) := [(⟨"GroebnerFan$Fan", "isBefore", "(ILGroebnerFan$BasisPolynomial;)Z"⟩, 2)]
theorem lw_r2 : ∀ q ∈ lw_privs_2, lw_okq q := List.forall_mem_cons.mpr ⟨lw_p16, fun _ h => absurd h List.not_mem_nil⟩
def lw_privs : List (MethodName × Nat) := lw_privs_1 ++ (lw_privs_2)
def lw_tbl : List Cond := k2_sels lw_privs ++ tables_1
theorem lw_privs_ok : ∀ q ∈ lw_privs, lw_okq q := by
  show ∀ q ∈ lw_privs_1 ++ (lw_privs_2), lw_okq q
  exact List.forall_mem_append.mpr ⟨lw_r1, lw_r2⟩
def RX0 : String := "GroebnerFan$BasisPolynomial"
def TX0 : u_T := fun k => match k with
  | 0 => ("GroebnerFan$BasisPolynomial", "corner", "I", false)
  | 1 => ("GroebnerFan$BasisPolynomial", "size", "I", false)
  | 2 => ("GroebnerFan$BasisPolynomial", "monomials", "[I", true)
  | _ => ("GroebnerFan$BasisPolynomial", "factors", "[I", true)
def tyX0 : Nat → FieldType := fun k => match k with
  | 0 => .int
  | 1 => .int
  | 2 => .array .int
  | _ => .array .int
abbrev wsX00 : List Cond := u_ws RX0 TX0 4
theorem nmX0 : ∀ a, a < 4 → ∀ b, b < 4 → a ≠ b → (TX0 a).2.1 ≠ (TX0 b).2.1 := by decide +kernel
theorem tyX0_ok : ∀ k, k < 4 → parseFieldDescriptor (TX0 k).2.2.1 = some (tyX0 k) := by decide +kernel
abbrev cX0_init : ByteArray := prog_2_method_1_code
def yX0_init : MethodName := ⟨RX0, "<init>", "()V"⟩
abbrev cX0_take : ByteArray := prog_2_method_2_code
def yX0_take : MethodName := ⟨RX0, "take", "(ILGroebnerFan$Elimination;)V"⟩
abbrev cX0_insertTerm : ByteArray := prog_2_method_3_code
def yX0_insertTerm : MethodName := ⟨RX0, "insertTerm", "(II)V"⟩
abbrev cX0_factorOf : ByteArray := prog_2_method_4_code
def yX0_factorOf : MethodName := ⟨RX0, "factorOf", "(I)I"⟩
abbrev cX0_hasTermsOf : ByteArray := prog_2_method_5_code
def yX0_hasTermsOf : MethodName := ⟨RX0, "hasTermsOf", "(LGroebnerFan$BasisPolynomial;)Z"⟩
abbrev cX0_degree : ByteArray := prog_2_method_6_code
def yX0_degree : MethodName := ⟨RX0, "degree", "()I"⟩
def RX1 : String := "GroebnerFan$Elimination"
def TX1 : u_T := fun k => match k with
  | 0 => ("GroebnerFan$Elimination", "points", "LGroebnerFan$Points;", true)
  | 1 => ("GroebnerFan$Elimination", "rows", "[[I", true)
  | 2 => ("GroebnerFan$Elimination", "origins", "[[I", true)
  | 3 => ("GroebnerFan$Elimination", "pivots", "[I", true)
  | 4 => ("GroebnerFan$Elimination", "size", "I", false)
  | 5 => ("GroebnerFan$Elimination", "monomials", "[I", true)
  | 6 => ("GroebnerFan$Elimination", "values", "[I", true)
  | _ => ("GroebnerFan$Elimination", "combination", "[I", true)
def tyX1 : Nat → FieldType := fun k => match k with
  | 0 => .object "GroebnerFan$Points"
  | 1 => .array (.array .int)
  | 2 => .array (.array .int)
  | 3 => .array .int
  | 4 => .int
  | 5 => .array .int
  | 6 => .array .int
  | _ => .array .int
abbrev wsX10 : List Cond := u_ws RX1 TX1 8
theorem nmX1 : ∀ a, a < 8 → ∀ b, b < 8 → a ≠ b → (TX1 a).2.1 ≠ (TX1 b).2.1 := by decide +kernel
theorem tyX1_ok : ∀ k, k < 8 → parseFieldDescriptor (TX1 k).2.2.1 = some (tyX1 k) := by decide +kernel
abbrev cX1_init : ByteArray := prog_3_method_1_code
def yX1_init : MethodName := ⟨RX1, "<init>", "(LGroebnerFan$Points;)V"⟩
abbrev cX1_restart : ByteArray := prog_3_method_2_code
def yX1_restart : MethodName := ⟨RX1, "restart", "()V"⟩
abbrev cX1_keepIfIndependent : ByteArray := prog_3_method_4_code
def yX1_keepIfIndependent : MethodName := ⟨RX1, "keepIfIndependent", "(I)Z"⟩
abbrev cX1_reduceValues : ByteArray := prog_3_method_5_code
def yX1_reduceValues : MethodName := ⟨RX1, "reduceValues", "()V"⟩
abbrev cX1_addMultiple : ByteArray := prog_3_method_6_code
def yX1_addMultiple : MethodName := ⟨RX1, "addMultiple", "([I[II)V"⟩
abbrev cX1_firstNonzeroValue : ByteArray := prog_3_method_7_code
def yX1_firstNonzeroValue : MethodName := ⟨RX1, "firstNonzeroValue", "()I"⟩
abbrev cX1_keepValues : ByteArray := prog_3_method_8_code
def yX1_keepValues : MethodName := ⟨RX1, "keepValues", "(II)V"⟩
def RX2 : String := "GroebnerFan$Fan"
def TX2 : u_T := fun k => match k with
  | 0 => ("GroebnerFan$Fan", "size", "I", false)
  | _ => ("GroebnerFan$Fan", "cones", "[LGroebnerFan$ReducedBasis;", true)
def tyX2 : Nat → FieldType := fun k => match k with
  | 0 => .int
  | _ => .array (.object "GroebnerFan$ReducedBasis")
abbrev wsX20 : List Cond := u_ws RX2 TX2 2
theorem nmX2 : ∀ a, a < 2 → ∀ b, b < 2 → a ≠ b → (TX2 a).2.1 ≠ (TX2 b).2.1 := by decide +kernel
theorem tyX2_ok : ∀ k, k < 2 → parseFieldDescriptor (TX2 k).2.2.1 = some (tyX2 k) := by decide +kernel
abbrev cX2_init : ByteArray := prog_4_method_1_code
def yX2_init : MethodName := ⟨RX2, "<init>", "()V"⟩
abbrev cX2_forget : ByteArray := prog_4_method_2_code
def yX2_forget : MethodName := ⟨RX2, "forget", "()V"⟩
abbrev cX2_find : ByteArray := prog_4_method_3_code
def yX2_find : MethodName := ⟨RX2, "find", "(I)LGroebnerFan$ReducedBasis;"⟩
abbrev cX2_refresh : ByteArray := prog_4_method_4_code
def yX2_refresh : MethodName := ⟨RX2, "refresh", "(LGroebnerFan$Order;LGroebnerFan$Elimination;)V"⟩
abbrev cX2_firstWithin : ByteArray := prog_4_method_5_code
def yX2_firstWithin : MethodName := ⟨RX2, "firstWithin", "(II)I"⟩
abbrev cX2_countDistinctPolynomials : ByteArray := prog_4_method_6_code
def yX2_countDistinctPolynomials : MethodName := ⟨RX2, "countDistinctPolynomials", "()I"⟩
abbrev cX2_isBefore : ByteArray := prog_4_method_7_code
def yX2_isBefore : MethodName := ⟨RX2, "isBefore", "(ILGroebnerFan$BasisPolynomial;)Z"⟩
abbrev cX2_greatestDegree : ByteArray := prog_4_method_8_code
def yX2_greatestDegree : MethodName := ⟨RX2, "greatestDegree", "()I"⟩
def RX3 : String := "GroebnerFan$InputText"
def TX3 : u_T := fun k => match k with
  | 0 => ("GroebnerFan$InputText", "length", "I", false)
  | 1 => ("GroebnerFan$InputText", "bytes", "[B", true)
  | 2 => ("GroebnerFan$InputText", "numberCount", "I", false)
  | _ => ("GroebnerFan$InputText", "numbers", "[I", true)
def tyX3 : Nat → FieldType := fun k => match k with
  | 0 => .int
  | 1 => .array .byte
  | 2 => .int
  | _ => .array .int
abbrev wsX30 : List Cond := u_ws RX3 TX3 4
theorem nmX3 : ∀ a, a < 4 → ∀ b, b < 4 → a ≠ b → (TX3 a).2.1 ≠ (TX3 b).2.1 := by decide +kernel
theorem tyX3_ok : ∀ k, k < 4 → parseFieldDescriptor (TX3 k).2.2.1 = some (tyX3 k) := by decide +kernel
abbrev cX3_init : ByteArray := prog_5_method_1_code
def yX3_init : MethodName := ⟨RX3, "<init>", "()V"⟩
def RX4 : String := "GroebnerFan$Order"
def TX4 : u_T := fun k => match k with
  | 0 => ("GroebnerFan$Order", "u", "I", false)
  | 1 => ("GroebnerFan$Order", "v", "I", false)
  | _ => ("GroebnerFan$Order", "tie", "I", false)
def tyX4 : Nat → FieldType := fun k => match k with
  | 0 => .int
  | 1 => .int
  | _ => .int
abbrev wsX40 : List Cond := u_ws RX4 TX4 3
theorem nmX4 : ∀ a, a < 3 → ∀ b, b < 3 → a ≠ b → (TX4 a).2.1 ≠ (TX4 b).2.1 := by decide +kernel
theorem tyX4_ok : ∀ k, k < 3 → parseFieldDescriptor (TX4 k).2.2.1 = some (tyX4 k) := by decide +kernel
abbrev cX4_init : ByteArray := prog_6_method_1_code
def yX4_init : MethodName := ⟨RX4, "<init>", "()V"⟩
abbrev cX4_choose : ByteArray := prog_6_method_2_code
def yX4_choose : MethodName := ⟨RX4, "choose", "(III)V"⟩
abbrev cX4_isSmaller : ByteArray := prog_6_method_3_code
def yX4_isSmaller : MethodName := ⟨RX4, "isSmaller", "(II)Z"⟩
abbrev cX4_weightOf : ByteArray := prog_6_method_4_code
def yX4_weightOf : MethodName := ⟨RX4, "weightOf", "(I)I"⟩
def RX5 : String := "GroebnerFan$Points"
def TX5 : u_T := fun k => match k with
  | 0 => ("GroebnerFan$Points", "modulus", "I", false)
  | 1 => ("GroebnerFan$Points", "size", "I", false)
  | 2 => ("GroebnerFan$Points", "xs", "[I", true)
  | _ => ("GroebnerFan$Points", "ys", "[I", true)
def tyX5 : Nat → FieldType := fun k => match k with
  | 0 => .int
  | 1 => .int
  | 2 => .array .int
  | _ => .array .int
abbrev wsX50 : List Cond := u_ws RX5 TX5 4
theorem nmX5 : ∀ a, a < 4 → ∀ b, b < 4 → a ≠ b → (TX5 a).2.1 ≠ (TX5 b).2.1 := by decide +kernel
theorem tyX5_ok : ∀ k, k < 4 → parseFieldDescriptor (TX5 k).2.2.1 = some (tyX5 k) := by decide +kernel
abbrev cX5_init : ByteArray := prog_7_method_1_code
def yX5_init : MethodName := ⟨RX5, "<init>", "()V"⟩
abbrev cX5_restart : ByteArray := prog_7_method_2_code
def yX5_restart : MethodName := ⟨RX5, "restart", "(I)V"⟩
abbrev cX5_isResidue : ByteArray := prog_7_method_4_code
def yX5_isResidue : MethodName := ⟨RX5, "isResidue", "(I)Z"⟩
abbrev cX5_inverse : ByteArray := prog_7_method_6_code
def yX5_inverse : MethodName := ⟨RX5, "inverse", "(I)I"⟩
abbrev cX5_holds : ByteArray := prog_7_method_8_code
def yX5_holds : MethodName := ⟨RX5, "holds", "(II)Z"⟩
abbrev cX5_append : ByteArray := prog_7_method_9_code
def yX5_append : MethodName := ⟨RX5, "append", "(II)V"⟩
abbrev cX5_monomialAt : ByteArray := prog_7_method_14_code
def yX5_monomialAt : MethodName := ⟨RX5, "monomialAt", "(II)I"⟩
abbrev cX5_power : ByteArray := prog_7_method_15_code
def yX5_power : MethodName := ⟨RX5, "power", "(II)I"⟩
def RX6 : String := "GroebnerFan$Polynomial"
def TX6 : u_T := fun k => match k with
  | _ => ("GroebnerFan$Polynomial", "factors", "[I", true)
def tyX6 : Nat → FieldType := fun k => match k with
  | _ => .array .int
abbrev wsX60 : List Cond := u_ws RX6 TX6 1
theorem nmX6 : ∀ a, a < 1 → ∀ b, b < 1 → a ≠ b → (TX6 a).2.1 ≠ (TX6 b).2.1 := by decide +kernel
theorem tyX6_ok : ∀ k, k < 1 → parseFieldDescriptor (TX6 k).2.2.1 = some (tyX6 k) := by decide +kernel
abbrev cX6_init : ByteArray := prog_8_method_1_code
def yX6_init : MethodName := ⟨RX6, "<init>", "()V"⟩
abbrev cX6_clear : ByteArray := prog_8_method_2_code
def yX6_clear : MethodName := ⟨RX6, "clear", "()V"⟩
abbrev cX6_countTerms : ByteArray := prog_8_method_4_code
def yX6_countTerms : MethodName := ⟨RX6, "countTerms", "()I"⟩
abbrev cX6_valueAt : ByteArray := prog_8_method_5_code
def yX6_valueAt : MethodName := ⟨RX6, "valueAt", "(LGroebnerFan$Points;I)I"⟩
def RX7 : String := "GroebnerFan$ReducedBasis"
def TX7 : u_T := fun k => match k with
  | 0 => ("GroebnerFan$ReducedBasis", "heights", "[I", true)
  | 1 => ("GroebnerFan$ReducedBasis", "size", "I", false)
  | 2 => ("GroebnerFan$ReducedBasis", "polynomials", "[LGroebnerFan$BasisPolynomial;", true)
  | 3 => ("GroebnerFan$ReducedBasis", "wallTop", "I", false)
  | _ => ("GroebnerFan$ReducedBasis", "wallBottom", "I", false)
def tyX7 : Nat → FieldType := fun k => match k with
  | 0 => .array .int
  | 1 => .int
  | 2 => .array (.object "GroebnerFan$BasisPolynomial")
  | 3 => .int
  | _ => .int
abbrev wsX70 : List Cond := u_ws RX7 TX7 5
theorem nmX7 : ∀ a, a < 5 → ∀ b, b < 5 → a ≠ b → (TX7 a).2.1 ≠ (TX7 b).2.1 := by decide +kernel
theorem tyX7_ok : ∀ k, k < 5 → parseFieldDescriptor (TX7 k).2.2.1 = some (tyX7 k) := by decide +kernel
abbrev cX7_init : ByteArray := prog_9_method_1_code
def yX7_init : MethodName := ⟨RX7, "<init>", "()V"⟩
abbrev cX7_find : ByteArray := prog_9_method_2_code
def yX7_find : MethodName := ⟨RX7, "find", "(I)LGroebnerFan$BasisPolynomial;"⟩
abbrev cX7_compute : ByteArray := prog_9_method_3_code
def yX7_compute : MethodName := ⟨RX7, "compute", "(LGroebnerFan$Order;LGroebnerFan$Elimination;)V"⟩
abbrev cX7_topOf : ByteArray := prog_9_method_4_code
def yX7_topOf : MethodName := ⟨RX7, "topOf", "(I)I"⟩
abbrev cX7_nextColumn : ByteArray := prog_9_method_5_code
def yX7_nextColumn : MethodName := ⟨RX7, "nextColumn", "(LGroebnerFan$Order;)I"⟩
abbrev cX7_isClosed : ByteArray := prog_9_method_6_code
def yX7_isClosed : MethodName := ⟨RX7, "isClosed", "(I)Z"⟩
abbrev cX7_insertCorner : ByteArray := prog_9_method_7_code
def yX7_insertCorner : MethodName := ⟨RX7, "insertCorner", "(ILGroebnerFan$Elimination;)V"⟩
abbrev cX7_findWall : ByteArray := prog_9_method_8_code
def yX7_findWall : MethodName := ⟨RX7, "findWall", "()V"⟩
abbrev cX7_lowerWall : ByteArray := prog_9_method_9_code
def yX7_lowerWall : MethodName := ⟨RX7, "lowerWall", "(LGroebnerFan$BasisPolynomial;)V"⟩
abbrev cX7_hasWall : ByteArray := prog_9_method_10_code
def yX7_hasWall : MethodName := ⟨RX7, "hasWall", "()Z"⟩
abbrev cX7_hasAboveWall : ByteArray := prog_9_method_11_code
def yX7_hasAboveWall : MethodName := ⟨RX7, "hasAboveWall", "(II)Z"⟩
abbrev cX7_hasOnWall : ByteArray := prog_9_method_12_code
def yX7_hasOnWall : MethodName := ⟨RX7, "hasOnWall", "(II)Z"⟩
abbrev cX7_countCornersOutside : ByteArray := prog_9_method_13_code
def yX7_countCornersOutside : MethodName := ⟨RX7, "countCornersOutside", "(LGroebnerFan$ReducedBasis;)I"⟩
abbrev cX7_hasCorner : ByteArray := prog_9_method_14_code
def yX7_hasCorner : MethodName := ⟨RX7, "hasCorner", "(I)Z"⟩
abbrev cX7_holdsTermsOf : ByteArray := prog_9_method_15_code
def yX7_holdsTermsOf : MethodName := ⟨RX7, "holdsTermsOf", "(LGroebnerFan$BasisPolynomial;)Z"⟩
def RX8 : String := "GroebnerFan$Slot"
def TX8 : u_T := fun k => match k with
  | 0 => ("GroebnerFan$Slot", "kind", "I", false)
  | 1 => ("GroebnerFan$Slot", "length", "I", false)
  | _ => ("GroebnerFan$Slot", "numbers", "[I", true)
def tyX8 : Nat → FieldType := fun k => match k with
  | 0 => .int
  | 1 => .int
  | _ => .array .int
abbrev wsX80 : List Cond := u_ws RX8 TX8 3
theorem nmX8 : ∀ a, a < 3 → ∀ b, b < 3 → a ≠ b → (TX8 a).2.1 ≠ (TX8 b).2.1 := by decide +kernel
theorem tyX8_ok : ∀ k, k < 3 → parseFieldDescriptor (TX8 k).2.2.1 = some (tyX8 k) := by decide +kernel
abbrev cX8_init : ByteArray := prog_10_method_1_code
def yX8_init : MethodName := ⟨RX8, "<init>", "()V"⟩
def RX9 : String := "GroebnerFan"
def TX9 : u_T := fun k => match k with
  | 0 => ("GroebnerFan", "points", "LGroebnerFan$Points;", true)
  | 1 => ("GroebnerFan", "current", "LGroebnerFan$Polynomial;", true)
  | 2 => ("GroebnerFan", "savedPoints", "LGroebnerFan$Points;", true)
  | 3 => ("GroebnerFan", "savedPolynomial", "LGroebnerFan$Polynomial;", true)
  | 4 => ("GroebnerFan", "isSaved", "Z", false)
  | 5 => ("GroebnerFan", "elimination", "LGroebnerFan$Elimination;", true)
  | 6 => ("GroebnerFan", "order", "LGroebnerFan$Order;", true)
  | 7 => ("GroebnerFan", "orderBasis", "LGroebnerFan$ReducedBasis;", true)
  | 8 => ("GroebnerFan", "fan", "LGroebnerFan$Fan;", true)
  | 9 => ("GroebnerFan", "input", "LGroebnerFan$InputText;", true)
  | 10 => ("GroebnerFan", "output", "Ljava/lang/StringBuilder;", true)
  | _ => ("GroebnerFan", "slots", "[LGroebnerFan$Slot;", true)
def tyX9 : Nat → FieldType := fun k => match k with
  | 0 => .object "GroebnerFan$Points"
  | 1 => .object "GroebnerFan$Polynomial"
  | 2 => .object "GroebnerFan$Points"
  | 3 => .object "GroebnerFan$Polynomial"
  | 4 => .boolean
  | 5 => .object "GroebnerFan$Elimination"
  | 6 => .object "GroebnerFan$Order"
  | 7 => .object "GroebnerFan$ReducedBasis"
  | 8 => .object "GroebnerFan$Fan"
  | 9 => .object "GroebnerFan$InputText"
  | 10 => .object "java/lang/StringBuilder"
  | _ => .array (.object "GroebnerFan$Slot")
abbrev wsX90 : List Cond := u_ws RX9 TX9 12
theorem nmX9 : ∀ a, a < 12 → ∀ b, b < 12 → a ≠ b → (TX9 a).2.1 ≠ (TX9 b).2.1 := by decide +kernel
theorem tyX9_ok : ∀ k, k < 12 → parseFieldDescriptor (TX9 k).2.2.1 = some (tyX9 k) := by decide +kernel
abbrev cX9_init : ByteArray := prog_1_method_1_code
def yX9_init : MethodName := ⟨RX9, "<init>", "()V"⟩
abbrev cX9_setPrime : ByteArray := prog_1_method_2_code
def yX9_setPrime : MethodName := ⟨RX9, "setPrime", "(I)I"⟩
abbrev cX9_prime : ByteArray := prog_1_method_3_code
def yX9_prime : MethodName := ⟨RX9, "prime", "()I"⟩
abbrev cX9_addPoint : ByteArray := prog_1_method_4_code
def yX9_addPoint : MethodName := ⟨RX9, "addPoint", "(II)I"⟩
abbrev cX9_pointCount : ByteArray := prog_1_method_6_code
def yX9_pointCount : MethodName := ⟨RX9, "pointCount", "()I"⟩
abbrev cX9_columnHeight : ByteArray := prog_1_method_12_code
def yX9_columnHeight : MethodName := ⟨RX9, "columnHeight", "(IIII)I"⟩
abbrev cX9_cornerCount : ByteArray := prog_1_method_13_code
def yX9_cornerCount : MethodName := ⟨RX9, "cornerCount", "(III)I"⟩
abbrev cX9_corner : ByteArray := prog_1_method_14_code
def yX9_corner : MethodName := ⟨RX9, "corner", "(IIII)I"⟩
abbrev cX9_coneCount : ByteArray := prog_1_method_15_code
def yX9_coneCount : MethodName := ⟨RX9, "coneCount", "()I"⟩
abbrev cX9_wallNumerator : ByteArray := prog_1_method_16_code
def yX9_wallNumerator : MethodName := ⟨RX9, "wallNumerator", "(I)I"⟩
abbrev cX9_wallDenominator : ByteArray := prog_1_method_17_code
def yX9_wallDenominator : MethodName := ⟨RX9, "wallDenominator", "(I)I"⟩
abbrev cX9_firstConeContaining : ByteArray := prog_1_method_18_code
def yX9_firstConeContaining : MethodName := ⟨RX9, "firstConeContaining", "(II)I"⟩
abbrev cX9_conesContaining : ByteArray := prog_1_method_19_code
def yX9_conesContaining : MethodName := ⟨RX9, "conesContaining", "(II)I"⟩
abbrev cX9_coneHeight : ByteArray := prog_1_method_20_code
def yX9_coneHeight : MethodName := ⟨RX9, "coneHeight", "(II)I"⟩
abbrev cX9_basisSize : ByteArray := prog_1_method_21_code
def yX9_basisSize : MethodName := ⟨RX9, "basisSize", "(I)I"⟩
abbrev cX9_basisCorner : ByteArray := prog_1_method_22_code
def yX9_basisCorner : MethodName := ⟨RX9, "basisCorner", "(II)I"⟩
abbrev cX9_basisCoefficient : ByteArray := prog_1_method_23_code
def yX9_basisCoefficient : MethodName := ⟨RX9, "basisCoefficient", "(IIII)I"⟩
abbrev cX9_changedCorners : ByteArray := prog_1_method_24_code
def yX9_changedCorners : MethodName := ⟨RX9, "changedCorners", "(I)I"⟩
abbrev cX9_universalSize : ByteArray := prog_1_method_25_code
def yX9_universalSize : MethodName := ⟨RX9, "universalSize", "()I"⟩
abbrev cX9_universalDegree : ByteArray := prog_1_method_26_code
def yX9_universalDegree : MethodName := ⟨RX9, "universalDegree", "()I"⟩
abbrev cX9_termCount : ByteArray := prog_1_method_31_code
def yX9_termCount : MethodName := ⟨RX9, "termCount", "()I"⟩
abbrev cX9_isVanishing : ByteArray := prog_1_method_33_code
def yX9_isVanishing : MethodName := ⟨RX9, "isVanishing", "()I"⟩
abbrev cX9_loadBasisPolynomial : ByteArray := prog_1_method_36_code
def yX9_loadBasisPolynomial : MethodName := ⟨RX9, "loadBasisPolynomial", "(II)I"⟩
abbrev cX9_isAllowedPrime : ByteArray := prog_1_method_51_code
def yX9_isAllowedPrime : MethodName := ⟨RX9, "isAllowedPrime", "(I)Z"⟩
abbrev cX9_isExponent : ByteArray := prog_1_method_52_code
def yX9_isExponent : MethodName := ⟨RX9, "isExponent", "(I)Z"⟩
abbrev cX9_isWeight : ByteArray := prog_1_method_53_code
def yX9_isWeight : MethodName := ⟨RX9, "isWeight", "(II)Z"⟩
abbrev cX9_isOrder : ByteArray := prog_1_method_54_code
def yX9_isOrder : MethodName := ⟨RX9, "isOrder", "(III)Z"⟩
abbrev cX9_decimalExponents : ByteArray := prog_1_method_55_code
def yX9_decimalExponents : MethodName := ⟨RX9, "decimalExponents", "(I)I"⟩
abbrev cX9_computeOrder : ByteArray := prog_1_method_56_code
def yX9_computeOrder : MethodName := ⟨RX9, "computeOrder", "(III)V"⟩
abbrev cX9_findCone : ByteArray := prog_1_method_57_code
def yX9_findCone : MethodName := ⟨RX9, "findCone", "(I)LGroebnerFan$ReducedBasis;"⟩
abbrev cX9_findBasisPolynomial : ByteArray := prog_1_method_58_code
def yX9_findBasisPolynomial : MethodName := ⟨RX9, "findBasisPolynomial", "(II)LGroebnerFan$BasisPolynomial;"⟩
def RX10 : String := "GroebnerFanModel"
def TX10 : u_T := fun k => match k with
  | _ => ("", "", "", false)
def tyX10 : Nat → FieldType := fun k => match k with
  | _ => .int
abbrev wsX100 : List Cond := u_ws RX10 TX10 0
theorem nmX10 : ∀ a, a < 0 → ∀ b, b < 0 → a ≠ b → (TX10 a).2.1 ≠ (TX10 b).2.1 := by decide +kernel
theorem tyX10_ok : ∀ k, k < 0 → parseFieldDescriptor (TX10 k).2.2.1 = some (tyX10 k) := by decide +kernel
def RJx145de : String := "java/io/Serializable"
def TJx145de : u_T := fun k => match k with
  | _ => ("", "", "", false)
def tyJx145de : Nat → FieldType := fun k => match k with
  | _ => .int
abbrev wsJx145de0 : List Cond := u_ws RJx145de TJx145de 0
theorem nmJx145de : ∀ a, a < 0 → ∀ b, b < 0 → a ≠ b → (TJx145de a).2.1 ≠ (TJx145de b).2.1 := by decide +kernel
theorem tyJx145de_ok : ∀ k, k < 0 → parseFieldDescriptor (TJx145de k).2.2.1 = some (tyJx145de k) := by decide +kernel
def RJ5 : String := "java/lang/AbstractStringBuilder"
def TJ5 : u_T := fun k => match k with
  | _ => ("", "", "", false)
def tyJ5 : Nat → FieldType := fun k => match k with
  | _ => .int
abbrev wsJ50 : List Cond := u_ws RJ5 TJ5 0
theorem nmJ5 : ∀ a, a < 0 → ∀ b, b < 0 → a ≠ b → (TJ5 a).2.1 ≠ (TJ5 b).2.1 := by decide +kernel
theorem tyJ5_ok : ∀ k, k < 0 → parseFieldDescriptor (TJ5 k).2.2.1 = some (tyJ5 k) := by decide +kernel
abbrev cJ5_init_d00df : ByteArray := prog_13_method_2_code
def yJ5_init_d00df : MethodName := ⟨RJ5, "<init>", "(I)V"⟩
def RJx2cfe8 : String := "java/lang/Appendable"
def TJx2cfe8 : u_T := fun k => match k with
  | _ => ("", "", "", false)
def tyJx2cfe8 : Nat → FieldType := fun k => match k with
  | _ => .int
abbrev wsJx2cfe80 : List Cond := u_ws RJx2cfe8 TJx2cfe8 0
theorem nmJx2cfe8 : ∀ a, a < 0 → ∀ b, b < 0 → a ≠ b → (TJx2cfe8 a).2.1 ≠ (TJx2cfe8 b).2.1 := by decide +kernel
theorem tyJx2cfe8_ok : ∀ k, k < 0 → parseFieldDescriptor (TJx2cfe8 k).2.2.1 = some (tyJx2cfe8 k) := by decide +kernel
def RJx9f9b0 : String := "java/lang/CharSequence"
def TJx9f9b0 : u_T := fun k => match k with
  | _ => ("", "", "", false)
def tyJx9f9b0 : Nat → FieldType := fun k => match k with
  | _ => .int
abbrev wsJx9f9b00 : List Cond := u_ws RJx9f9b0 TJx9f9b0 0
theorem nmJx9f9b0 : ∀ a, a < 0 → ∀ b, b < 0 → a ≠ b → (TJx9f9b0 a).2.1 ≠ (TJx9f9b0 b).2.1 := by decide +kernel
theorem tyJx9f9b0_ok : ∀ k, k < 0 → parseFieldDescriptor (TJx9f9b0 k).2.2.1 = some (tyJx9f9b0 k) := by decide +kernel
def RJxb160c : String := "java/lang/Comparable"
def TJxb160c : u_T := fun k => match k with
  | _ => ("", "", "", false)
def tyJxb160c : Nat → FieldType := fun k => match k with
  | _ => .int
abbrev wsJxb160c0 : List Cond := u_ws RJxb160c TJxb160c 0
theorem nmJxb160c : ∀ a, a < 0 → ∀ b, b < 0 → a ≠ b → (TJxb160c a).2.1 ≠ (TJxb160c b).2.1 := by decide +kernel
theorem tyJxb160c_ok : ∀ k, k < 0 → parseFieldDescriptor (TJxb160c k).2.2.1 = some (tyJxb160c k) := by decide +kernel
def RJ9 : String := "java/lang/Math"
def TJ9 : u_T := fun k => match k with
  | _ => ("", "", "", false)
def tyJ9 : Nat → FieldType := fun k => match k with
  | _ => .int
abbrev wsJ90 : List Cond := u_ws RJ9 TJ9 0
theorem nmJ9 : ∀ a, a < 0 → ∀ b, b < 0 → a ≠ b → (TJ9 a).2.1 ≠ (TJ9 b).2.1 := by decide +kernel
theorem tyJ9_ok : ∀ k, k < 0 → parseFieldDescriptor (TJ9 k).2.2.1 = some (tyJ9 k) := by decide +kernel
abbrev cJ9_max_7cf53 : ByteArray := prog_14_method_65_code
def yJ9_max_7cf53 : MethodName := ⟨RJ9, "max", "(II)I"⟩
def RJ0 : String := "java/lang/String"
def TJ0 : u_T := fun k => match k with
  | _ => ("", "", "", false)
def tyJ0 : Nat → FieldType := fun k => match k with
  | _ => .int
abbrev wsJ00 : List Cond := u_ws RJ0 TJ0 0
theorem nmJ0 : ∀ a, a < 0 → ∀ b, b < 0 → a ≠ b → (TJ0 a).2.1 ≠ (TJ0 b).2.1 := by decide +kernel
theorem tyJ0_ok : ∀ k, k < 0 → parseFieldDescriptor (TJ0 k).2.2.1 = some (tyJ0 k) := by decide +kernel
def RJ4 : String := "java/lang/StringBuilder"
def TJ4 : u_T := fun k => match k with
  | 0 => ("java/lang/AbstractStringBuilder", "value", "[B", false)
  | 1 => ("java/lang/AbstractStringBuilder", "coder", "B", false)
  | 2 => ("java/lang/AbstractStringBuilder", "maybeLatin1", "Z", false)
  | _ => ("java/lang/AbstractStringBuilder", "count", "I", false)
def tyJ4 : Nat → FieldType := fun k => match k with
  | 0 => .array .byte
  | 1 => .byte
  | 2 => .boolean
  | _ => .int
abbrev wsJ40 : List Cond := u_ws RJ4 TJ4 4
theorem nmJ4 : ∀ a, a < 4 → ∀ b, b < 4 → a ≠ b → (TJ4 a).2.1 ≠ (TJ4 b).2.1 := by decide +kernel
theorem tyJ4_ok : ∀ k, k < 4 → parseFieldDescriptor (TJ4 k).2.2.1 = some (tyJ4 k) := by decide +kernel
abbrev cJ4_init_da8c8 : ByteArray := prog_16_method_1_code
def yJ4_init_da8c8 : MethodName := ⟨RJ4, "<init>", "()V"⟩
def RJ2 : String := "java/lang/StringUTF16"
def TJ2 : u_T := fun k => match k with
  | _ => ("", "", "", false)
def tyJ2 : Nat → FieldType := fun k => match k with
  | _ => .int
abbrev wsJ20 : List Cond := u_ws RJ2 TJ2 0
theorem nmJ2 : ∀ a, a < 0 → ∀ b, b < 0 → a ≠ b → (TJ2 a).2.1 ≠ (TJ2 b).2.1 := by decide +kernel
theorem tyJ2_ok : ∀ k, k < 0 → parseFieldDescriptor (TJ2 k).2.2.1 = some (tyJ2 k) := by decide +kernel
abbrev cJ2_newBytesFor_77867 : ByteArray := prog_17_method_2_code
def yJ2_newBytesFor_77867 : MethodName := ⟨RJ2, "newBytesFor", "(I)[B"⟩
abbrev cJ2_newBytesLength_0f7a4 : ByteArray := prog_17_method_3_code
def yJ2_newBytesLength_0f7a4 : MethodName := ⟨RJ2, "newBytesLength", "(I)I"⟩
def RJxfd54e : String := "java/lang/constant/Constable"
def TJxfd54e : u_T := fun k => match k with
  | _ => ("", "", "", false)
def tyJxfd54e : Nat → FieldType := fun k => match k with
  | _ => .int
abbrev wsJxfd54e0 : List Cond := u_ws RJxfd54e TJxfd54e 0
theorem nmJxfd54e : ∀ a, a < 0 → ∀ b, b < 0 → a ≠ b → (TJxfd54e a).2.1 ≠ (TJxfd54e b).2.1 := by decide +kernel
theorem tyJxfd54e_ok : ∀ k, k < 0 → parseFieldDescriptor (TJxfd54e k).2.2.1 = some (tyJxfd54e k) := by decide +kernel
def RJx3cf43 : String := "java/lang/constant/ConstantDesc"
def TJx3cf43 : u_T := fun k => match k with
  | _ => ("", "", "", false)
def tyJx3cf43 : Nat → FieldType := fun k => match k with
  | _ => .int
abbrev wsJx3cf430 : List Cond := u_ws RJx3cf43 TJx3cf43 0
theorem nmJx3cf43 : ∀ a, a < 0 → ∀ b, b < 0 → a ≠ b → (TJx3cf43 a).2.1 ≠ (TJx3cf43 b).2.1 := by decide +kernel
theorem tyJx3cf43_ok : ∀ k, k < 0 → parseFieldDescriptor (TJx3cf43 k).2.2.1 = some (tyJx3cf43 k) := by decide +kernel
def RJ7 : String := "java/util/Arrays"
def TJ7 : u_T := fun k => match k with
  | _ => ("", "", "", false)
def tyJ7 : Nat → FieldType := fun k => match k with
  | _ => .int
abbrev wsJ70 : List Cond := u_ws RJ7 TJ7 0
theorem nmJ7 : ∀ a, a < 0 → ∀ b, b < 0 → a ≠ b → (TJ7 a).2.1 ≠ (TJ7 b).2.1 := by decide +kernel
theorem tyJ7_ok : ∀ k, k < 0 → parseFieldDescriptor (TJ7 k).2.2.1 = some (tyJ7 k) := by decide +kernel
abbrev cJ7_fill_53178 : ByteArray := prog_18_method_103_code
def yJ7_fill_53178 : MethodName := ⟨RJ7, "fill", "([II)V"⟩
def RL : String := "GroebnerFanLaw"
abbrev cL_cell : ByteArray := method_2_code
def yL_cell : MethodName := ⟨RL, "cell", "([II)I"⟩
abbrev cL_pick : ByteArray := method_3_code
def yL_pick : MethodName := ⟨RL, "pick", "([III)I"⟩
abbrev cL_prime : ByteArray := method_4_code
def yL_prime : MethodName := ⟨RL, "prime", "(I)I"⟩
abbrev cL_addPoints : ByteArray := method_5_code
def yL_addPoints : MethodName := ⟨RL, "addPoints", "(LGroebnerFan;[II)V"⟩
abbrev cL_isStandard : ByteArray := method_8_code
def yL_isStandard : MethodName := ⟨RL, "isStandard", "(LGroebnerFan;III)Z"⟩
abbrev cL_isBasisGood : ByteArray := method_9_code
def yL_isBasisGood : MethodName := ⟨RL, "isBasisGood", "(LGroebnerFan;II)Z"⟩
abbrev cL_isConeGood : ByteArray := method_10_code
def yL_isConeGood : MethodName := ⟨RL, "isConeGood", "(LGroebnerFan;I)Z"⟩
abbrev cL_isWallGood : ByteArray := method_11_code
def yL_isWallGood : MethodName := ⟨RL, "isWallGood", "(LGroebnerFan;I)Z"⟩
abbrev cL_isContained : ByteArray := method_12_code
def yL_isContained : MethodName := ⟨RL, "isContained", "(LGroebnerFan;II)Z"⟩
abbrev cL_isUniversal : ByteArray := method_13_code
def yL_isUniversal : MethodName := ⟨RL, "isUniversal", "(LGroebnerFan;)Z"⟩
abbrev cL_law : ByteArray := code
def yL_law : MethodName := ⟨RL, "law", "([I)Z"⟩
abbrev vwCl : List vw_C := [(RJ4, TJ4, 4), (RX0, TX0, 4), (RX1, TX1, 8), (RX2, TX2, 2), (RX3, TX3, 4), (RX4, TX4, 3), (RX5, TX5, 4), (RX6, TX6, 1), (RX7, TX7, 5), (RX8, TX8, 3), (RX9, TX9, 12)]
