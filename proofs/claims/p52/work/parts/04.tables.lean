/-! ===== the methods that the law reaches, and what their instructions name: printed by wip/whole/mktables.py ===== -/
def mJmax : zM := (Lib.Math.max.code, 2, 29, false, 0, 0, Lib.Math.max.name, some .int)
def mJmin : zM := (Lib.Math.min.code, 2, 29, false, 0, 0, Lib.Math.min.name, some .int)
def mX5_init : zM := (cX5_init, 1, 6, true, 1, 20, yX5_init, none)
def mX6_init : zM := (cX6_init, 1, 7, true, 1, 20, yX6_init, none)
def mX1_init : zM := (cX1_init, 2, 2, true, 1, 20, yX1_init, none)
def mX4_init : zM := (cX4_init, 1, 5, true, 1, 20, yX4_init, none)
def mX0_init : zM := (cX0_init, 1, 1, true, 1, 20, yX0_init, none)
def mX7_init : zM := (cX7_init, 2, 8, true, 2, 40, yX7_init, none)
def mX2_init : zM := (cX2_init, 2, 3, true, 3, 61, yX2_init, none)
def mX3_init : zM := (cX3_init, 1, 4, true, 1, 20, yX3_init, none)
def mJ5_init_d00df : zM := (cJ5_init_d00df, 2, 25, true, 1, 20, yJ5_init_d00df, none)
def mJ4_init_da8c8 : zM := (cJ4_init_da8c8, 1, 0, true, 2, 41, yJ4_init_da8c8, none)
def mX8_init : zM := (cX8_init, 1, 9, true, 1, 20, yX8_init, none)
def mX9_init : zM := (cX9_init, 2, 10, true, 4, 82, yX9_init, none)
def mX9_prime : zM := (cX9_prime, 1, 10, false, 0, 0, yX9_prime, (some .int))
def mX4_choose : zM := (cX4_choose, 4, 5, false, 0, 0, yX4_choose, none)
def mJ7_fill_53178 : zM := (cJ7_fill_53178, 4, 27, false, 0, 0, yJ7_fill_53178, none)
def mX1_restart : zM := (cX1_restart, 1, 2, false, 0, 0, yX1_restart, none)
def mX7_isClosed : zM := (cX7_isClosed, 4, 8, false, 0, 0, yX7_isClosed, (some .boolean))
def mX7_topOf : zM := (cX7_topOf, 2, 8, false, 0, 0, yX7_topOf, (some .int))
def mX4_weightOf : zM := (cX4_weightOf, 2, 5, false, 0, 0, yX4_weightOf, (some .int))
def mX4_isSmaller : zM := (cX4_isSmaller, 5, 5, false, 1, 21, yX4_isSmaller, (some .boolean))
def mX7_nextColumn : zM := (cX7_nextColumn, 4, 8, false, 2, 45, yX7_nextColumn, (some .int))
def mX5_power : zM := (cX5_power, 5, 6, false, 0, 0, yX5_power, (some .int))
def mX5_monomialAt : zM := (cX5_monomialAt, 3, 6, false, 1, 24, yX5_monomialAt, (some .int))
def mX1_addMultiple : zM := (cX1_addMultiple, 5, 2, false, 0, 0, yX1_addMultiple, none)
def mX1_reduceValues : zM := (cX1_reduceValues, 3, 2, false, 1, 24, yX1_reduceValues, none)
def mX1_firstNonzeroValue : zM := (cX1_firstNonzeroValue, 2, 2, false, 0, 0, yX1_firstNonzeroValue, (some .int))
def mX5_inverse : zM := (cX5_inverse, 3, 6, false, 0, 0, yX5_inverse, (some .int))
def mX1_keepValues : zM := (cX1_keepValues, 6, 2, false, 1, 22, yX1_keepValues, none)
def mX1_keepIfIndependent : zM := (cX1_keepIfIndependent, 3, 2, false, 2, 47, yX1_keepIfIndependent, (some .boolean))
def mX0_insertTerm : zM := (cX0_insertTerm, 5, 1, false, 0, 0, yX0_insertTerm, none)
def mX0_take : zM := (cX0_take, 5, 1, false, 1, 24, yX0_take, none)
def mX7_insertCorner : zM := (cX7_insertCorner, 6, 8, false, 2, 48, yX7_insertCorner, none)
def mX7_hasWall : zM := (cX7_hasWall, 1, 8, false, 0, 0, yX7_hasWall, (some .boolean))
def mX7_lowerWall : zM := (cX7_lowerWall, 7, 8, false, 1, 20, yX7_lowerWall, none)
def mX7_findWall : zM := (cX7_findWall, 2, 8, false, 2, 46, yX7_findWall, none)
def mX7_compute : zM := (cX7_compute, 6, 8, false, 3, 73, yX7_compute, none)
def mX2_refresh : zM := (cX2_refresh, 5, 3, false, 4, 98, yX2_refresh, none)
def mX9_coneCount : zM := (cX9_coneCount, 1, 10, false, 5, 122, yX9_coneCount, (some .int))
def mX2_find : zM := (cX2_find, 2, 3, false, 0, 0, yX2_find, (some (.object "GroebnerFan$ReducedBasis")))
def mX9_findCone : zM := (cX9_findCone, 2, 10, false, 5, 122, yX9_findCone, (some (.object "GroebnerFan$ReducedBasis")))
def mX9_basisSize : zM := (cX9_basisSize, 3, 10, false, 6, 143, yX9_basisSize, (some .int))
def mX7_find : zM := (cX7_find, 2, 8, false, 0, 0, yX7_find, (some (.object "GroebnerFan$BasisPolynomial")))
def mX9_findBasisPolynomial : zM := (cX9_findBasisPolynomial, 4, 10, false, 6, 143, yX9_findBasisPolynomial, (some (.object "GroebnerFan$BasisPolynomial")))
def mX9_decimalExponents : zM := (cX9_decimalExponents, 1, 10, false, 0, 0, yX9_decimalExponents, (some .int))
def mX9_basisCorner : zM := (cX9_basisCorner, 4, 10, false, 7, 166, yX9_basisCorner, (some .int))
def mX9_isExponent : zM := (cX9_isExponent, 1, 10, false, 0, 0, yX9_isExponent, (some .boolean))
def mX0_factorOf : zM := (cX0_factorOf, 3, 1, false, 0, 0, yX0_factorOf, (some .int))
def mX9_basisCoefficient : zM := (cX9_basisCoefficient, 6, 10, false, 7, 166, yX9_basisCoefficient, (some .int))
def mX9_wallNumerator : zM := (cX9_wallNumerator, 3, 10, false, 6, 143, yX9_wallNumerator, (some .int))
def mX9_wallDenominator : zM := (cX9_wallDenominator, 3, 10, false, 6, 143, yX9_wallDenominator, (some .int))
def mX7_hasCorner : zM := (cX7_hasCorner, 3, 8, false, 0, 0, yX7_hasCorner, (some .boolean))
def mX7_countCornersOutside : zM := (cX7_countCornersOutside, 4, 8, false, 1, 22, yX7_countCornersOutside, (some .int))
def mX9_changedCorners : zM := (cX9_changedCorners, 4, 10, false, 6, 143, yX9_changedCorners, (some .int))
def mX9_isWeight : zM := (cX9_isWeight, 2, 10, false, 0, 0, yX9_isWeight, (some .boolean))
def mX7_hasAboveWall : zM := (cX7_hasAboveWall, 3, 8, false, 1, 20, yX7_hasAboveWall, (some .boolean))
def mX2_firstWithin : zM := (cX2_firstWithin, 4, 3, false, 2, 42, yX2_firstWithin, (some .int))
def mX7_hasOnWall : zM := (cX7_hasOnWall, 3, 8, false, 1, 20, yX7_hasOnWall, (some .boolean))
def mX9_conesContaining : zM := (cX9_conesContaining, 4, 10, false, 5, 122, yX9_conesContaining, (some .int))
def mL_cell : zM := (cL_cell, 3, 20, false, 0, 0, yL_cell, (some .int))
def mL_pick : zM := (cL_pick, 3, 20, false, 1, 22, yL_pick, (some .int))
def mL_prime : zM := (cL_prime, 1, 20, false, 0, 0, yL_prime, (some .int))
def mX9_isAllowedPrime : zM := (cX9_isAllowedPrime, 5, 10, false, 0, 0, yX9_isAllowedPrime, (some .boolean))
def mX5_restart : zM := (cX5_restart, 2, 6, false, 0, 0, yX5_restart, none)
def mX6_clear : zM := (cX6_clear, 1, 7, false, 1, 23, yX6_clear, none)
def mX2_forget : zM := (cX2_forget, 1, 3, false, 0, 0, yX2_forget, none)
def mX9_setPrime : zM := (cX9_setPrime, 3, 10, false, 2, 43, yX9_setPrime, (some .int))
def mX5_isResidue : zM := (cX5_isResidue, 2, 6, false, 0, 0, yX5_isResidue, (some .boolean))
def mX5_holds : zM := (cX5_holds, 4, 6, false, 0, 0, yX5_holds, (some .boolean))
def mX5_append : zM := (cX5_append, 3, 6, false, 0, 0, yX5_append, none)
def mX9_addPoint : zM := (cX9_addPoint, 3, 10, false, 1, 23, yX9_addPoint, (some .int))
def mL_addPoints : zM := (cL_addPoints, 5, 20, false, 3, 65, yL_addPoints, none)
def mX9_coneHeight : zM := (cX9_coneHeight, 4, 10, false, 6, 143, yX9_coneHeight, (some .int))
def mX9_pointCount : zM := (cX9_pointCount, 1, 10, false, 0, 0, yX9_pointCount, (some .int))
def mL_isStandard : zM := (cL_isStandard, 4, 20, false, 7, 166, yL_isStandard, (some .boolean))
def mX6_countTerms : zM := (cX6_countTerms, 6, 7, false, 0, 0, yX6_countTerms, (some .int))
def mX9_loadBasisPolynomial : zM := (cX9_loadBasisPolynomial, 5, 10, false, 7, 166, yX9_loadBasisPolynomial, (some .int))
def mX6_valueAt : zM := (cX6_valueAt, 7, 7, false, 0, 0, yX6_valueAt, (some .int))
def mX9_isVanishing : zM := (cX9_isVanishing, 2, 10, false, 1, 26, yX9_isVanishing, (some .int))
def mX9_termCount : zM := (cX9_termCount, 1, 10, false, 1, 25, yX9_termCount, (some .int))
def mL_isBasisGood : zM := (cL_isBasisGood, 8, 20, false, 8, 191, yL_isBasisGood, (some .boolean))
def mL_isConeGood : zM := (cL_isConeGood, 6, 20, false, 9, 218, yL_isConeGood, (some .boolean))
def mX9_firstConeContaining : zM := (cX9_firstConeContaining, 3, 10, false, 5, 122, yX9_firstConeContaining, (some .int))
def mX9_isOrder : zM := (cX9_isOrder, 3, 10, false, 1, 21, yX9_isOrder, (some .boolean))
def mX9_computeOrder : zM := (cX9_computeOrder, 4, 10, false, 4, 98, yX9_computeOrder, none)
def mX9_cornerCount : zM := (cX9_cornerCount, 4, 10, false, 5, 121, yX9_cornerCount, (some .int))
def mX9_corner : zM := (cX9_corner, 6, 10, false, 5, 121, yX9_corner, (some .int))
def mX9_columnHeight : zM := (cX9_columnHeight, 5, 10, false, 5, 121, yX9_columnHeight, (some .int))
def mL_isWallGood : zM := (cL_isWallGood, 6, 20, false, 8, 189, yL_isWallGood, (some .boolean))
def mX0_degree : zM := (cX0_degree, 3, 1, false, 1, 21, yX0_degree, (some .int))
def mX2_greatestDegree : zM := (cX2_greatestDegree, 5, 3, false, 2, 43, yX2_greatestDegree, (some .int))
def mX9_universalDegree : zM := (cX9_universalDegree, 1, 10, false, 5, 122, yX9_universalDegree, (some .int))
def mX0_hasTermsOf : zM := (cX0_hasTermsOf, 3, 1, false, 0, 0, yX0_hasTermsOf, (some .boolean))
def mX7_holdsTermsOf : zM := (cX7_holdsTermsOf, 3, 8, false, 1, 22, yX7_holdsTermsOf, (some .boolean))
def mX2_isBefore : zM := (cX2_isBefore, 4, 3, false, 2, 44, yX2_isBefore, (some .boolean))
def mX2_countDistinctPolynomials : zM := (cX2_countDistinctPolynomials, 5, 3, false, 3, 67, yX2_countDistinctPolynomials, (some .int))
def mX9_universalSize : zM := (cX9_universalSize, 1, 10, false, 5, 122, yX9_universalSize, (some .int))
def mL_isUniversal : zM := (cL_isUniversal, 7, 20, false, 8, 191, yL_isUniversal, (some .boolean))
def mL_isContained : zM := (cL_isContained, 8, 20, false, 7, 166, yL_isContained, (some .boolean))
def mL_law : zM := (cL_law, 7, 20, false, 10, 243, yL_law, (some .boolean))
theorem z_found {α : Type} {L : List ((Nat × Nat) × α)} {c i : Nat} {v : α} (h : (L.find? (fun r => r.1.1 == c && r.1.2 == i)).map (fun r => r.2) = some v) : ((c, i), v) ∈ L := by
  cases hf : L.find? (fun r => r.1.1 == c && r.1.2 == i) with
  | none => rw [hf] at h; cases h
  | some r =>
    rw [hf] at h
    have h1 := List.find?_some hf
    have h2 := List.mem_of_find?_eq_some hf
    simp only [Bool.and_eq_true, beq_iff_eq] at h1
    obtain ⟨⟨a, b⟩, w⟩ := r
    cases h
    obtain ⟨rfl, rfl⟩ := h1
    exact h2
theorem z_find {α : Type} : ∀ {L : List ((Nat × Nat) × α)} {k c i : Nat} {v : α}, (L.map (fun r => r.1)).Nodup → L[k]? = some ((c, i), v) → (L.find? (fun r => r.1.1 == c && r.1.2 == i)).map (fun r => r.2) = some v
  | [], k, c, i, v, _, h => by simp at h
  | r :: L, 0, c, i, v, _, h => by
    simp only [List.getElem?_cons_zero, Option.some.injEq] at h
    subst h
    simp [List.find?_cons]
  | r :: L, k + 1, c, i, v, hn, h => by
    rw [List.getElem?_cons_succ] at h
    rw [List.map_cons, List.nodup_cons] at hn
    have hm : (c, i) ∈ L.map (fun r => r.1) := List.mem_map.mpr ⟨_, List.mem_of_getElem? h, rfl⟩
    have hne : (r.1.1 == c && r.1.2 == i) = false := by
      cases hb : (r.1.1 == c && r.1.2 == i) with
      | false => rfl
      | true =>
        simp only [Bool.and_eq_true, beq_iff_eq] at hb
        exact absurd (show r.1 ∈ L.map (fun r => r.1) by rw [show r.1 = (c, i) from Prod.ext hb.1 hb.2]; exact hm) hn.1
    rw [List.find?_cons, hne]
    exact z_find hn.2 h
def zkmL0 : List ((Nat × Nat) × (Nat × Nat × Nat × zM)) := [((0, 1), (2, 1, 0, mJ5_init_d00df)), ((1, 3), (6, 0, 0, mJmax)), ((1, 25), (1, 2, 1, mX0_insertTerm)), ((1, 45), (0, 2, 0, mJmax)), ((2, 3), (6, 0, 0, mJmax)), ((2, 55), (1, 2, 6, mX5_monomialAt)), ((2, 59), (1, 0, 2, mX1_reduceValues)), ((2, 62), (1, 0, 2, mX1_firstNonzeroValue)), ((2, 66), (1, 2, 2, mX1_keepValues)), ((2, 70), (0, 2, 0, mJ7_fill_53178)), ((2, 79), (1, 3, 2, mX1_addMultiple)), ((2, 83), (1, 1, 6, mX5_inverse)), ((3, 3), (6, 0, 0, mJmax)), ((3, 21), (2, 0, 0, mX7_init)), ((3, 22), (1, 3, 5, mX4_choose)), ((3, 28), (1, 2, 8, mX7_compute)), ((3, 32), (1, 0, 8, mX7_hasWall)), ((3, 42), (1, 2, 8, mX7_hasAboveWall)), ((3, 51), (1, 2, 3, mX2_isBefore)), ((3, 55), (1, 1, 8, mX7_holdsTermsOf)), ((3, 59), (1, 0, 1, mX0_degree)), ((3, 65), (0, 2, 0, mJmax)), ((4, 3), (6, 0, 0, mJmax)), ((5, 3), (6, 0, 0, mJmax)), ((5, 21), (1, 1, 5, mX4_weightOf)), ((6, 3), (6, 0, 0, mJmax)), ((6, 41), (1, 2, 6, mX5_power)), ((7, 3), (6, 0, 0, mJmax)), ((7, 15), (0, 2, 0, mJ7_fill_53178)), ((8, 3), (6, 0, 0, mJmax)), ((8, 31), (3, 0, 0, mX0_init)), ((8, 32), (0, 2, 0, mJ7_fill_53178)), ((8, 38), (1, 0, 2, mX1_restart)), ((8, 43), (1, 1, 8, mX7_nextColumn)), ((8, 47), (1, 1, 8, mX7_topOf)), ((8, 51), (1, 1, 2, mX1_keepIfIndependent)), ((8, 55), (1, 2, 8, mX7_insertCorner)), ((8, 59), (1, 0, 8, mX7_findWall)), ((8, 62), (1, 1, 8, mX7_isClosed)), ((8, 65), (1, 2, 5, mX4_isSmaller))]
def zkmL1 : List ((Nat × Nat) × (Nat × Nat × Nat × zM)) := [((8, 74), (1, 2, 1, mX0_take)), ((8, 77), (1, 1, 8, mX7_lowerWall)), ((8, 85), (1, 0, 8, mX7_hasWall)), ((8, 89), (1, 1, 8, mX7_hasCorner)), ((8, 92), (1, 1, 1, mX0_hasTermsOf)), ((9, 3), (6, 0, 0, mJmax)), ((10, 3), (6, 0, 0, mJmax)), ((10, 11), (3, 0, 0, mX5_init)), ((10, 18), (3, 0, 0, mX6_init)), ((10, 35), (2, 1, 0, mX1_init)), ((10, 44), (3, 0, 0, mX4_init)), ((10, 51), (2, 0, 0, mX7_init)), ((10, 58), (2, 0, 0, mX2_init)), ((10, 65), (3, 0, 0, mX3_init)), ((10, 72), (2, 0, 0, mJ4_init_da8c8)), ((10, 83), (3, 0, 0, mX8_init)), ((10, 84), (0, 1, 0, mX9_isAllowedPrime)), ((10, 92), (1, 1, 6, mX5_restart)), ((10, 96), (1, 0, 7, mX6_clear)), ((10, 99), (1, 0, 3, mX2_forget)), ((10, 102), (1, 1, 6, mX5_isResidue)), ((10, 105), (1, 2, 6, mX5_holds)), ((10, 112), (1, 2, 6, mX5_append)), ((10, 140), (0, 1, 0, mX9_isExponent)), ((10, 143), (0, 3, 0, mX9_isOrder)), ((10, 147), (1, 3, 10, mX9_computeOrder)), ((10, 155), (1, 1, 8, mX7_find)), ((10, 164), (0, 1, 0, mX9_decimalExponents)), ((10, 168), (1, 2, 3, mX2_refresh)), ((10, 173), (1, 1, 10, mX9_findCone)), ((10, 177), (1, 0, 8, mX7_hasWall)), ((10, 186), (0, 2, 0, mX9_isWeight)), ((10, 189), (1, 2, 3, mX2_firstWithin)), ((10, 193), (1, 1, 3, mX2_find)), ((10, 195), (1, 2, 8, mX7_hasOnWall)), ((10, 198), (1, 2, 10, mX9_findBasisPolynomial)), ((10, 202), (1, 1, 1, mX0_factorOf)), ((10, 205), (1, 1, 8, mX7_countCornersOutside)), ((10, 209), (1, 0, 3, mX2_countDistinctPolynomials)), ((10, 213), (1, 0, 3, mX2_greatestDegree))]
def zkmL2 : List ((Nat × Nat) × (Nat × Nat × Nat × zM)) := [((10, 228), (1, 0, 7, mX6_countTerms)), ((10, 231), (1, 2, 7, mX6_valueAt)), ((10, 309), (1, 3, 5, mX4_choose)), ((10, 312), (1, 2, 8, mX7_compute)), ((20, 9), (0, 2, 0, mL_cell)), ((20, 15), (0, 3, 0, mL_pick)), ((20, 19), (0, 1, 0, mL_prime)), ((20, 23), (1, 1, 10, mX9_setPrime)), ((20, 28), (1, 0, 10, mX9_prime)), ((20, 31), (1, 2, 10, mX9_addPoint)), ((20, 39), (1, 0, 10, mX9_pointCount)), ((20, 53), (1, 2, 10, mX9_coneHeight)), ((20, 56), (1, 2, 10, mX9_basisCorner)), ((20, 59), (1, 4, 10, mX9_basisCoefficient)), ((20, 63), (0, 4, 0, mL_isStandard)), ((20, 67), (1, 2, 10, mX9_loadBasisPolynomial)), ((20, 70), (1, 0, 10, mX9_isVanishing)), ((20, 73), (1, 0, 10, mX9_termCount)), ((20, 76), (1, 1, 10, mX9_basisSize)), ((20, 79), (0, 3, 0, mL_isBasisGood)), ((20, 83), (1, 1, 10, mX9_wallDenominator)), ((20, 86), (1, 1, 10, mX9_wallNumerator)), ((20, 89), (1, 2, 10, mX9_conesContaining)), ((20, 92), (1, 2, 10, mX9_firstConeContaining)), ((20, 95), (1, 3, 10, mX9_cornerCount)), ((20, 98), (1, 4, 10, mX9_corner)), ((20, 101), (1, 4, 10, mX9_columnHeight)), ((20, 104), (1, 1, 10, mX9_changedCorners)), ((20, 107), (1, 0, 10, mX9_coneCount)), ((20, 110), (0, 2, 0, mJmax)), ((20, 115), (1, 0, 10, mX9_universalDegree)), ((20, 118), (1, 0, 10, mX9_universalSize)), ((20, 121), (2, 0, 0, mX9_init)), ((20, 122), (0, 3, 0, mL_addPoints)), ((20, 126), (0, 2, 0, mL_isConeGood)), ((20, 130), (0, 2, 0, mL_isWallGood)), ((20, 133), (0, 1, 0, mL_isUniversal)), ((20, 137), (0, 3, 0, mL_isContained)), ((25, 3), (6, 0, 0, mJmax))]
def zkmL : List ((Nat × Nat) × (Nat × Nat × Nat × zM)) := zkmL0 ++ (zkmL1 ++ (zkmL2))
def zkm (c i : Nat) : Option (Nat × Nat × Nat × zM) := (zkmL.find? (fun r => r.1.1 == c && r.1.2 == i)).map (fun r => r.2)
theorem zkm_nd : (zkmL.map (fun r => r.1)).Nodup := by decide +kernel
theorem zkm_at {k c i : Nat} {v : Nat × Nat × Nat × zM} (h : zkmL[k]? = some ((c, i), v)) : zkm c i = some v := z_find zkm_nd h
theorem zkm_mem {c i : Nat} {v : Nat × Nat × Nat × zM} (h : zkm c i = some v) : ((c, i), v) ∈ zkmL := z_found h
theorem zkm_0_1 : zkm 0 1 = some (2, 1, 0, mJ5_init_d00df) := zkm_at (k := 0) rfl
theorem zkm_1_3 : zkm 1 3 = some (6, 0, 0, mJmax) := zkm_at (k := 1) rfl
theorem zkm_1_25 : zkm 1 25 = some (1, 2, 1, mX0_insertTerm) := zkm_at (k := 2) rfl
theorem zkm_1_45 : zkm 1 45 = some (0, 2, 0, mJmax) := zkm_at (k := 3) rfl
theorem zkm_2_3 : zkm 2 3 = some (6, 0, 0, mJmax) := zkm_at (k := 4) rfl
theorem zkm_2_55 : zkm 2 55 = some (1, 2, 6, mX5_monomialAt) := zkm_at (k := 5) rfl
theorem zkm_2_59 : zkm 2 59 = some (1, 0, 2, mX1_reduceValues) := zkm_at (k := 6) rfl
theorem zkm_2_62 : zkm 2 62 = some (1, 0, 2, mX1_firstNonzeroValue) := zkm_at (k := 7) rfl
theorem zkm_2_66 : zkm 2 66 = some (1, 2, 2, mX1_keepValues) := zkm_at (k := 8) rfl
theorem zkm_2_70 : zkm 2 70 = some (0, 2, 0, mJ7_fill_53178) := zkm_at (k := 9) rfl
theorem zkm_2_79 : zkm 2 79 = some (1, 3, 2, mX1_addMultiple) := zkm_at (k := 10) rfl
theorem zkm_2_83 : zkm 2 83 = some (1, 1, 6, mX5_inverse) := zkm_at (k := 11) rfl
theorem zkm_3_3 : zkm 3 3 = some (6, 0, 0, mJmax) := zkm_at (k := 12) rfl
theorem zkm_3_21 : zkm 3 21 = some (2, 0, 0, mX7_init) := zkm_at (k := 13) rfl
theorem zkm_3_22 : zkm 3 22 = some (1, 3, 5, mX4_choose) := zkm_at (k := 14) rfl
theorem zkm_3_28 : zkm 3 28 = some (1, 2, 8, mX7_compute) := zkm_at (k := 15) rfl
theorem zkm_3_32 : zkm 3 32 = some (1, 0, 8, mX7_hasWall) := zkm_at (k := 16) rfl
theorem zkm_3_42 : zkm 3 42 = some (1, 2, 8, mX7_hasAboveWall) := zkm_at (k := 17) rfl
theorem zkm_3_51 : zkm 3 51 = some (1, 2, 3, mX2_isBefore) := zkm_at (k := 18) rfl
theorem zkm_3_55 : zkm 3 55 = some (1, 1, 8, mX7_holdsTermsOf) := zkm_at (k := 19) rfl
theorem zkm_3_59 : zkm 3 59 = some (1, 0, 1, mX0_degree) := zkm_at (k := 20) rfl
theorem zkm_3_65 : zkm 3 65 = some (0, 2, 0, mJmax) := zkm_at (k := 21) rfl
theorem zkm_4_3 : zkm 4 3 = some (6, 0, 0, mJmax) := zkm_at (k := 22) rfl
theorem zkm_5_3 : zkm 5 3 = some (6, 0, 0, mJmax) := zkm_at (k := 23) rfl
theorem zkm_5_21 : zkm 5 21 = some (1, 1, 5, mX4_weightOf) := zkm_at (k := 24) rfl
theorem zkm_6_3 : zkm 6 3 = some (6, 0, 0, mJmax) := zkm_at (k := 25) rfl
theorem zkm_6_41 : zkm 6 41 = some (1, 2, 6, mX5_power) := zkm_at (k := 26) rfl
theorem zkm_7_3 : zkm 7 3 = some (6, 0, 0, mJmax) := zkm_at (k := 27) rfl
theorem zkm_7_15 : zkm 7 15 = some (0, 2, 0, mJ7_fill_53178) := zkm_at (k := 28) rfl
theorem zkm_8_3 : zkm 8 3 = some (6, 0, 0, mJmax) := zkm_at (k := 29) rfl
theorem zkm_8_31 : zkm 8 31 = some (3, 0, 0, mX0_init) := zkm_at (k := 30) rfl
theorem zkm_8_32 : zkm 8 32 = some (0, 2, 0, mJ7_fill_53178) := zkm_at (k := 31) rfl
theorem zkm_8_38 : zkm 8 38 = some (1, 0, 2, mX1_restart) := zkm_at (k := 32) rfl
theorem zkm_8_43 : zkm 8 43 = some (1, 1, 8, mX7_nextColumn) := zkm_at (k := 33) rfl
theorem zkm_8_47 : zkm 8 47 = some (1, 1, 8, mX7_topOf) := zkm_at (k := 34) rfl
theorem zkm_8_51 : zkm 8 51 = some (1, 1, 2, mX1_keepIfIndependent) := zkm_at (k := 35) rfl
theorem zkm_8_55 : zkm 8 55 = some (1, 2, 8, mX7_insertCorner) := zkm_at (k := 36) rfl
theorem zkm_8_59 : zkm 8 59 = some (1, 0, 8, mX7_findWall) := zkm_at (k := 37) rfl
theorem zkm_8_62 : zkm 8 62 = some (1, 1, 8, mX7_isClosed) := zkm_at (k := 38) rfl
theorem zkm_8_65 : zkm 8 65 = some (1, 2, 5, mX4_isSmaller) := zkm_at (k := 39) rfl
theorem zkm_8_74 : zkm 8 74 = some (1, 2, 1, mX0_take) := zkm_at (k := 40) rfl
theorem zkm_8_77 : zkm 8 77 = some (1, 1, 8, mX7_lowerWall) := zkm_at (k := 41) rfl
theorem zkm_8_85 : zkm 8 85 = some (1, 0, 8, mX7_hasWall) := zkm_at (k := 42) rfl
theorem zkm_8_89 : zkm 8 89 = some (1, 1, 8, mX7_hasCorner) := zkm_at (k := 43) rfl
theorem zkm_8_92 : zkm 8 92 = some (1, 1, 1, mX0_hasTermsOf) := zkm_at (k := 44) rfl
theorem zkm_9_3 : zkm 9 3 = some (6, 0, 0, mJmax) := zkm_at (k := 45) rfl
theorem zkm_10_3 : zkm 10 3 = some (6, 0, 0, mJmax) := zkm_at (k := 46) rfl
theorem zkm_10_11 : zkm 10 11 = some (3, 0, 0, mX5_init) := zkm_at (k := 47) rfl
theorem zkm_10_18 : zkm 10 18 = some (3, 0, 0, mX6_init) := zkm_at (k := 48) rfl
theorem zkm_10_35 : zkm 10 35 = some (2, 1, 0, mX1_init) := zkm_at (k := 49) rfl
theorem zkm_10_44 : zkm 10 44 = some (3, 0, 0, mX4_init) := zkm_at (k := 50) rfl
theorem zkm_10_51 : zkm 10 51 = some (2, 0, 0, mX7_init) := zkm_at (k := 51) rfl
theorem zkm_10_58 : zkm 10 58 = some (2, 0, 0, mX2_init) := zkm_at (k := 52) rfl
theorem zkm_10_65 : zkm 10 65 = some (3, 0, 0, mX3_init) := zkm_at (k := 53) rfl
theorem zkm_10_72 : zkm 10 72 = some (2, 0, 0, mJ4_init_da8c8) := zkm_at (k := 54) rfl
theorem zkm_10_83 : zkm 10 83 = some (3, 0, 0, mX8_init) := zkm_at (k := 55) rfl
theorem zkm_10_84 : zkm 10 84 = some (0, 1, 0, mX9_isAllowedPrime) := zkm_at (k := 56) rfl
theorem zkm_10_92 : zkm 10 92 = some (1, 1, 6, mX5_restart) := zkm_at (k := 57) rfl
theorem zkm_10_96 : zkm 10 96 = some (1, 0, 7, mX6_clear) := zkm_at (k := 58) rfl
theorem zkm_10_99 : zkm 10 99 = some (1, 0, 3, mX2_forget) := zkm_at (k := 59) rfl
theorem zkm_10_102 : zkm 10 102 = some (1, 1, 6, mX5_isResidue) := zkm_at (k := 60) rfl
theorem zkm_10_105 : zkm 10 105 = some (1, 2, 6, mX5_holds) := zkm_at (k := 61) rfl
theorem zkm_10_112 : zkm 10 112 = some (1, 2, 6, mX5_append) := zkm_at (k := 62) rfl
theorem zkm_10_140 : zkm 10 140 = some (0, 1, 0, mX9_isExponent) := zkm_at (k := 63) rfl
theorem zkm_10_143 : zkm 10 143 = some (0, 3, 0, mX9_isOrder) := zkm_at (k := 64) rfl
theorem zkm_10_147 : zkm 10 147 = some (1, 3, 10, mX9_computeOrder) := zkm_at (k := 65) rfl
theorem zkm_10_155 : zkm 10 155 = some (1, 1, 8, mX7_find) := zkm_at (k := 66) rfl
theorem zkm_10_164 : zkm 10 164 = some (0, 1, 0, mX9_decimalExponents) := zkm_at (k := 67) rfl
theorem zkm_10_168 : zkm 10 168 = some (1, 2, 3, mX2_refresh) := zkm_at (k := 68) rfl
theorem zkm_10_173 : zkm 10 173 = some (1, 1, 10, mX9_findCone) := zkm_at (k := 69) rfl
theorem zkm_10_177 : zkm 10 177 = some (1, 0, 8, mX7_hasWall) := zkm_at (k := 70) rfl
theorem zkm_10_186 : zkm 10 186 = some (0, 2, 0, mX9_isWeight) := zkm_at (k := 71) rfl
theorem zkm_10_189 : zkm 10 189 = some (1, 2, 3, mX2_firstWithin) := zkm_at (k := 72) rfl
theorem zkm_10_193 : zkm 10 193 = some (1, 1, 3, mX2_find) := zkm_at (k := 73) rfl
theorem zkm_10_195 : zkm 10 195 = some (1, 2, 8, mX7_hasOnWall) := zkm_at (k := 74) rfl
theorem zkm_10_198 : zkm 10 198 = some (1, 2, 10, mX9_findBasisPolynomial) := zkm_at (k := 75) rfl
theorem zkm_10_202 : zkm 10 202 = some (1, 1, 1, mX0_factorOf) := zkm_at (k := 76) rfl
theorem zkm_10_205 : zkm 10 205 = some (1, 1, 8, mX7_countCornersOutside) := zkm_at (k := 77) rfl
theorem zkm_10_209 : zkm 10 209 = some (1, 0, 3, mX2_countDistinctPolynomials) := zkm_at (k := 78) rfl
theorem zkm_10_213 : zkm 10 213 = some (1, 0, 3, mX2_greatestDegree) := zkm_at (k := 79) rfl
theorem zkm_10_228 : zkm 10 228 = some (1, 0, 7, mX6_countTerms) := zkm_at (k := 80) rfl
theorem zkm_10_231 : zkm 10 231 = some (1, 2, 7, mX6_valueAt) := zkm_at (k := 81) rfl
theorem zkm_10_309 : zkm 10 309 = some (1, 3, 5, mX4_choose) := zkm_at (k := 82) rfl
theorem zkm_10_312 : zkm 10 312 = some (1, 2, 8, mX7_compute) := zkm_at (k := 83) rfl
theorem zkm_20_9 : zkm 20 9 = some (0, 2, 0, mL_cell) := zkm_at (k := 84) rfl
theorem zkm_20_15 : zkm 20 15 = some (0, 3, 0, mL_pick) := zkm_at (k := 85) rfl
theorem zkm_20_19 : zkm 20 19 = some (0, 1, 0, mL_prime) := zkm_at (k := 86) rfl
theorem zkm_20_23 : zkm 20 23 = some (1, 1, 10, mX9_setPrime) := zkm_at (k := 87) rfl
theorem zkm_20_28 : zkm 20 28 = some (1, 0, 10, mX9_prime) := zkm_at (k := 88) rfl
theorem zkm_20_31 : zkm 20 31 = some (1, 2, 10, mX9_addPoint) := zkm_at (k := 89) rfl
theorem zkm_20_39 : zkm 20 39 = some (1, 0, 10, mX9_pointCount) := zkm_at (k := 90) rfl
theorem zkm_20_53 : zkm 20 53 = some (1, 2, 10, mX9_coneHeight) := zkm_at (k := 91) rfl
theorem zkm_20_56 : zkm 20 56 = some (1, 2, 10, mX9_basisCorner) := zkm_at (k := 92) rfl
theorem zkm_20_59 : zkm 20 59 = some (1, 4, 10, mX9_basisCoefficient) := zkm_at (k := 93) rfl
theorem zkm_20_63 : zkm 20 63 = some (0, 4, 0, mL_isStandard) := zkm_at (k := 94) rfl
theorem zkm_20_67 : zkm 20 67 = some (1, 2, 10, mX9_loadBasisPolynomial) := zkm_at (k := 95) rfl
theorem zkm_20_70 : zkm 20 70 = some (1, 0, 10, mX9_isVanishing) := zkm_at (k := 96) rfl
theorem zkm_20_73 : zkm 20 73 = some (1, 0, 10, mX9_termCount) := zkm_at (k := 97) rfl
theorem zkm_20_76 : zkm 20 76 = some (1, 1, 10, mX9_basisSize) := zkm_at (k := 98) rfl
theorem zkm_20_79 : zkm 20 79 = some (0, 3, 0, mL_isBasisGood) := zkm_at (k := 99) rfl
theorem zkm_20_83 : zkm 20 83 = some (1, 1, 10, mX9_wallDenominator) := zkm_at (k := 100) rfl
theorem zkm_20_86 : zkm 20 86 = some (1, 1, 10, mX9_wallNumerator) := zkm_at (k := 101) rfl
theorem zkm_20_89 : zkm 20 89 = some (1, 2, 10, mX9_conesContaining) := zkm_at (k := 102) rfl
theorem zkm_20_92 : zkm 20 92 = some (1, 2, 10, mX9_firstConeContaining) := zkm_at (k := 103) rfl
theorem zkm_20_95 : zkm 20 95 = some (1, 3, 10, mX9_cornerCount) := zkm_at (k := 104) rfl
theorem zkm_20_98 : zkm 20 98 = some (1, 4, 10, mX9_corner) := zkm_at (k := 105) rfl
theorem zkm_20_101 : zkm 20 101 = some (1, 4, 10, mX9_columnHeight) := zkm_at (k := 106) rfl
theorem zkm_20_104 : zkm 20 104 = some (1, 1, 10, mX9_changedCorners) := zkm_at (k := 107) rfl
theorem zkm_20_107 : zkm 20 107 = some (1, 0, 10, mX9_coneCount) := zkm_at (k := 108) rfl
theorem zkm_20_110 : zkm 20 110 = some (0, 2, 0, mJmax) := zkm_at (k := 109) rfl
theorem zkm_20_115 : zkm 20 115 = some (1, 0, 10, mX9_universalDegree) := zkm_at (k := 110) rfl
theorem zkm_20_118 : zkm 20 118 = some (1, 0, 10, mX9_universalSize) := zkm_at (k := 111) rfl
theorem zkm_20_121 : zkm 20 121 = some (2, 0, 0, mX9_init) := zkm_at (k := 112) rfl
theorem zkm_20_122 : zkm 20 122 = some (0, 3, 0, mL_addPoints) := zkm_at (k := 113) rfl
theorem zkm_20_126 : zkm 20 126 = some (0, 2, 0, mL_isConeGood) := zkm_at (k := 114) rfl
theorem zkm_20_130 : zkm 20 130 = some (0, 2, 0, mL_isWallGood) := zkm_at (k := 115) rfl
theorem zkm_20_133 : zkm 20 133 = some (0, 1, 0, mL_isUniversal) := zkm_at (k := 116) rfl
theorem zkm_20_137 : zkm 20 137 = some (0, 3, 0, mL_isContained) := zkm_at (k := 117) rfl
theorem zkm_25_3 : zkm 25 3 = some (6, 0, 0, mJmax) := zkm_at (k := 118) rfl
def zkfL : List ((Nat × Nat) × (Nat × Nat)) := [((1, 9), (1, 0)), ((1, 15), (1, 1)), ((1, 18), (1, 2)), ((1, 22), (1, 3)), ((1, 29), (2, 4)), ((1, 32), (2, 7)), ((1, 35), (2, 5)), ((1, 36), (2, 0)), ((1, 40), (6, 0)), ((2, 11), (2, 1)), ((2, 16), (2, 2)), ((2, 19), (2, 3)), ((2, 23), (2, 4)), ((2, 27), (2, 5)), ((2, 30), (2, 6)), ((2, 33), (2, 7)), ((2, 36), (2, 0)), ((2, 52), (6, 1)), ((2, 76), (6, 0)), ((3, 9), (3, 0)), ((3, 17), (3, 1)), ((3, 36), (8, 4)), ((3, 39), (8, 3)), ((3, 46), (8, 1)), ((3, 47), (8, 2)), ((4, 9), (4, 0)), ((4, 15), (4, 1)), ((4, 19), (4, 2)), ((4, 22), (4, 3)), ((5, 9), (5, 0)), ((5, 15), (5, 1)), ((5, 18), (5, 2)), ((6, 9), (6, 0)), ((6, 15), (6, 1)), ((6, 18), (6, 2)), ((6, 22), (6, 3)), ((7, 9), (7, 0)), ((7, 27), (6, 3)), ((7, 32), (6, 0)), ((7, 36), (6, 2)), ((8, 9), (8, 0)), ((8, 15), (8, 1)), ((8, 21), (8, 2)), ((8, 25), (8, 3)), ((8, 28), (8, 4)), ((8, 71), (1, 0)), ((8, 81), (1, 1)), ((8, 82), (1, 2)), ((9, 11), (9, 0)), ((9, 15), (9, 1)), ((9, 18), (9, 2)), ((10, 12), (10, 0)), ((10, 19), (10, 1)), ((10, 23), (10, 2)), ((10, 26), (10, 3)), ((10, 29), (10, 4)), ((10, 38), (10, 5)), ((10, 45), (10, 6)), ((10, 52), (10, 7)), ((10, 59), (10, 8)), ((10, 66), (10, 9)), ((10, 73), (10, 10)), ((10, 79), (10, 11)), ((10, 88), (6, 0)), ((10, 109), (6, 1)), ((10, 151), (8, 0)), ((10, 154), (8, 1)), ((10, 159), (1, 0)), ((10, 172), (3, 0)), ((10, 180), (8, 3)), ((10, 183), (8, 4)), ((10, 222), (7, 0)), ((10, 261), (1, 1)), ((10, 262), (1, 2)), ((10, 265), (1, 3)), ((25, 15), (0, 0)), ((25, 22), (0, 1))]
def zkf (c i : Nat) : Option (Nat × Nat) := (zkfL.find? (fun r => r.1.1 == c && r.1.2 == i)).map (fun r => r.2)
theorem zkf_nd : (zkfL.map (fun r => r.1)).Nodup := by decide +kernel
theorem zkf_at {k c i : Nat} {v : Nat × Nat} (h : zkfL[k]? = some ((c, i), v)) : zkf c i = some v := z_find zkf_nd h
theorem zkf_mem {c i : Nat} {v : Nat × Nat} (h : zkf c i = some v) : ((c, i), v) ∈ zkfL := z_found h
theorem zkf_1_9 : zkf 1 9 = some (1, 0) := zkf_at (k := 0) rfl
theorem zkf_1_15 : zkf 1 15 = some (1, 1) := zkf_at (k := 1) rfl
theorem zkf_1_18 : zkf 1 18 = some (1, 2) := zkf_at (k := 2) rfl
theorem zkf_1_22 : zkf 1 22 = some (1, 3) := zkf_at (k := 3) rfl
theorem zkf_1_29 : zkf 1 29 = some (2, 4) := zkf_at (k := 4) rfl
theorem zkf_1_32 : zkf 1 32 = some (2, 7) := zkf_at (k := 5) rfl
theorem zkf_1_35 : zkf 1 35 = some (2, 5) := zkf_at (k := 6) rfl
theorem zkf_1_36 : zkf 1 36 = some (2, 0) := zkf_at (k := 7) rfl
theorem zkf_1_40 : zkf 1 40 = some (6, 0) := zkf_at (k := 8) rfl
theorem zkf_2_11 : zkf 2 11 = some (2, 1) := zkf_at (k := 9) rfl
theorem zkf_2_16 : zkf 2 16 = some (2, 2) := zkf_at (k := 10) rfl
theorem zkf_2_19 : zkf 2 19 = some (2, 3) := zkf_at (k := 11) rfl
theorem zkf_2_23 : zkf 2 23 = some (2, 4) := zkf_at (k := 12) rfl
theorem zkf_2_27 : zkf 2 27 = some (2, 5) := zkf_at (k := 13) rfl
theorem zkf_2_30 : zkf 2 30 = some (2, 6) := zkf_at (k := 14) rfl
theorem zkf_2_33 : zkf 2 33 = some (2, 7) := zkf_at (k := 15) rfl
theorem zkf_2_36 : zkf 2 36 = some (2, 0) := zkf_at (k := 16) rfl
theorem zkf_2_52 : zkf 2 52 = some (6, 1) := zkf_at (k := 17) rfl
theorem zkf_2_76 : zkf 2 76 = some (6, 0) := zkf_at (k := 18) rfl
theorem zkf_3_9 : zkf 3 9 = some (3, 0) := zkf_at (k := 19) rfl
theorem zkf_3_17 : zkf 3 17 = some (3, 1) := zkf_at (k := 20) rfl
theorem zkf_3_36 : zkf 3 36 = some (8, 4) := zkf_at (k := 21) rfl
theorem zkf_3_39 : zkf 3 39 = some (8, 3) := zkf_at (k := 22) rfl
theorem zkf_3_46 : zkf 3 46 = some (8, 1) := zkf_at (k := 23) rfl
theorem zkf_3_47 : zkf 3 47 = some (8, 2) := zkf_at (k := 24) rfl
theorem zkf_4_9 : zkf 4 9 = some (4, 0) := zkf_at (k := 25) rfl
theorem zkf_4_15 : zkf 4 15 = some (4, 1) := zkf_at (k := 26) rfl
theorem zkf_4_19 : zkf 4 19 = some (4, 2) := zkf_at (k := 27) rfl
theorem zkf_4_22 : zkf 4 22 = some (4, 3) := zkf_at (k := 28) rfl
theorem zkf_5_9 : zkf 5 9 = some (5, 0) := zkf_at (k := 29) rfl
theorem zkf_5_15 : zkf 5 15 = some (5, 1) := zkf_at (k := 30) rfl
theorem zkf_5_18 : zkf 5 18 = some (5, 2) := zkf_at (k := 31) rfl
theorem zkf_6_9 : zkf 6 9 = some (6, 0) := zkf_at (k := 32) rfl
theorem zkf_6_15 : zkf 6 15 = some (6, 1) := zkf_at (k := 33) rfl
theorem zkf_6_18 : zkf 6 18 = some (6, 2) := zkf_at (k := 34) rfl
theorem zkf_6_22 : zkf 6 22 = some (6, 3) := zkf_at (k := 35) rfl
theorem zkf_7_9 : zkf 7 9 = some (7, 0) := zkf_at (k := 36) rfl
theorem zkf_7_27 : zkf 7 27 = some (6, 3) := zkf_at (k := 37) rfl
theorem zkf_7_32 : zkf 7 32 = some (6, 0) := zkf_at (k := 38) rfl
theorem zkf_7_36 : zkf 7 36 = some (6, 2) := zkf_at (k := 39) rfl
theorem zkf_8_9 : zkf 8 9 = some (8, 0) := zkf_at (k := 40) rfl
theorem zkf_8_15 : zkf 8 15 = some (8, 1) := zkf_at (k := 41) rfl
theorem zkf_8_21 : zkf 8 21 = some (8, 2) := zkf_at (k := 42) rfl
theorem zkf_8_25 : zkf 8 25 = some (8, 3) := zkf_at (k := 43) rfl
theorem zkf_8_28 : zkf 8 28 = some (8, 4) := zkf_at (k := 44) rfl
theorem zkf_8_71 : zkf 8 71 = some (1, 0) := zkf_at (k := 45) rfl
theorem zkf_8_81 : zkf 8 81 = some (1, 1) := zkf_at (k := 46) rfl
theorem zkf_8_82 : zkf 8 82 = some (1, 2) := zkf_at (k := 47) rfl
theorem zkf_9_11 : zkf 9 11 = some (9, 0) := zkf_at (k := 48) rfl
theorem zkf_9_15 : zkf 9 15 = some (9, 1) := zkf_at (k := 49) rfl
theorem zkf_9_18 : zkf 9 18 = some (9, 2) := zkf_at (k := 50) rfl
theorem zkf_10_12 : zkf 10 12 = some (10, 0) := zkf_at (k := 51) rfl
theorem zkf_10_19 : zkf 10 19 = some (10, 1) := zkf_at (k := 52) rfl
theorem zkf_10_23 : zkf 10 23 = some (10, 2) := zkf_at (k := 53) rfl
theorem zkf_10_26 : zkf 10 26 = some (10, 3) := zkf_at (k := 54) rfl
theorem zkf_10_29 : zkf 10 29 = some (10, 4) := zkf_at (k := 55) rfl
theorem zkf_10_38 : zkf 10 38 = some (10, 5) := zkf_at (k := 56) rfl
theorem zkf_10_45 : zkf 10 45 = some (10, 6) := zkf_at (k := 57) rfl
theorem zkf_10_52 : zkf 10 52 = some (10, 7) := zkf_at (k := 58) rfl
theorem zkf_10_59 : zkf 10 59 = some (10, 8) := zkf_at (k := 59) rfl
theorem zkf_10_66 : zkf 10 66 = some (10, 9) := zkf_at (k := 60) rfl
theorem zkf_10_73 : zkf 10 73 = some (10, 10) := zkf_at (k := 61) rfl
theorem zkf_10_79 : zkf 10 79 = some (10, 11) := zkf_at (k := 62) rfl
theorem zkf_10_88 : zkf 10 88 = some (6, 0) := zkf_at (k := 63) rfl
theorem zkf_10_109 : zkf 10 109 = some (6, 1) := zkf_at (k := 64) rfl
theorem zkf_10_151 : zkf 10 151 = some (8, 0) := zkf_at (k := 65) rfl
theorem zkf_10_154 : zkf 10 154 = some (8, 1) := zkf_at (k := 66) rfl
theorem zkf_10_159 : zkf 10 159 = some (1, 0) := zkf_at (k := 67) rfl
theorem zkf_10_172 : zkf 10 172 = some (3, 0) := zkf_at (k := 68) rfl
theorem zkf_10_180 : zkf 10 180 = some (8, 3) := zkf_at (k := 69) rfl
theorem zkf_10_183 : zkf 10 183 = some (8, 4) := zkf_at (k := 70) rfl
theorem zkf_10_222 : zkf 10 222 = some (7, 0) := zkf_at (k := 71) rfl
theorem zkf_10_261 : zkf 10 261 = some (1, 1) := zkf_at (k := 72) rfl
theorem zkf_10_262 : zkf 10 262 = some (1, 2) := zkf_at (k := 73) rfl
theorem zkf_10_265 : zkf 10 265 = some (1, 3) := zkf_at (k := 74) rfl
theorem zkf_25_15 : zkf 25 15 = some (0, 0) := zkf_at (k := 75) rfl
theorem zkf_25_22 : zkf 25 22 = some (0, 1) := zkf_at (k := 76) rfl
def zksL : List ((Nat × Nat) × (Nat)) := [((10, 306), 1), ((25, 18), 0)]
def zks (c i : Nat) : Option (Nat) := (zksL.find? (fun r => r.1.1 == c && r.1.2 == i)).map (fun r => r.2)
theorem zks_nd : (zksL.map (fun r => r.1)).Nodup := by decide +kernel
theorem zks_at {k c i : Nat} {v : Nat} (h : zksL[k]? = some ((c, i), v)) : zks c i = some v := z_find zks_nd h
theorem zks_mem {c i : Nat} {v : Nat} (h : zks c i = some v) : ((c, i), v) ∈ zksL := z_found h
theorem zks_10_306 : zks 10 306 = some 1 := zks_at (k := 0) rfl
theorem zks_25_18 : zks 25 18 = some 0 := zks_at (k := 1) rfl
def zkkL : List ((Nat × Nat) × (Nat)) := [((2, 9), 99), ((3, 15), 8), ((8, 19), 1), ((10, 9), 6), ((10, 16), 7), ((10, 33), 2), ((10, 42), 5), ((10, 49), 8), ((10, 56), 3), ((10, 63), 4), ((10, 70), 0), ((10, 77), 9), ((20, 24), 10)]
def zkk (c i : Nat) : Option (Nat) := (zkkL.find? (fun r => r.1.1 == c && r.1.2 == i)).map (fun r => r.2)
theorem zkk_nd : (zkkL.map (fun r => r.1)).Nodup := by decide +kernel
theorem zkk_at {k c i : Nat} {v : Nat} (h : zkkL[k]? = some ((c, i), v)) : zkk c i = some v := z_find zkk_nd h
theorem zkk_mem {c i : Nat} {v : Nat} (h : zkk c i = some v) : ((c, i), v) ∈ zkkL := z_found h
theorem zkk_2_9 : zkk 2 9 = some 99 := zkk_at (k := 0) rfl
theorem zkk_3_15 : zkk 3 15 = some 8 := zkk_at (k := 1) rfl
theorem zkk_8_19 : zkk 8 19 = some 1 := zkk_at (k := 2) rfl
theorem zkk_10_9 : zkk 10 9 = some 6 := zkk_at (k := 3) rfl
theorem zkk_10_16 : zkk 10 16 = some 7 := zkk_at (k := 4) rfl
theorem zkk_10_33 : zkk 10 33 = some 2 := zkk_at (k := 5) rfl
theorem zkk_10_42 : zkk 10 42 = some 5 := zkk_at (k := 6) rfl
theorem zkk_10_49 : zkk 10 49 = some 8 := zkk_at (k := 7) rfl
theorem zkk_10_56 : zkk 10 56 = some 3 := zkk_at (k := 8) rfl
theorem zkk_10_63 : zkk 10 63 = some 4 := zkk_at (k := 9) rfl
theorem zkk_10_70 : zkk 10 70 = some 0 := zkk_at (k := 10) rfl
theorem zkk_10_77 : zkk 10 77 = some 9 := zkk_at (k := 11) rfl
theorem zkk_20_24 : zkk 20 24 = some 10 := zkk_at (k := 12) rfl
def zkcL : List ((Nat × Nat) × (Int)) := [((20, 7), 69069), ((20, 8), 1103515245)]
def zkc (c i : Nat) : Option (Int) := (zkcL.find? (fun r => r.1.1 == c && r.1.2 == i)).map (fun r => r.2)
theorem zkc_nd : (zkcL.map (fun r => r.1)).Nodup := by decide +kernel
theorem zkc_at {k c i : Nat} {v : Int} (h : zkcL[k]? = some ((c, i), v)) : zkc c i = some v := z_find zkc_nd h
theorem zkc_mem {c i : Nat} {v : Int} (h : zkc c i = some v) : ((c, i), v) ∈ zkcL := z_found h
theorem zkc_20_7 : zkc 20 7 = some 69069 := zkc_at (k := 0) rfl
theorem zkc_20_8 : zkc 20 8 = some 1103515245 := zkc_at (k := 1) rfl
