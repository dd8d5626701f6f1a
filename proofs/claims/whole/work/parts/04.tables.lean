/-! ===== the methods that the law reaches, and what their instructions name: printed by wip/whole/mktables.py ===== -/
def mJmax : zM := (Lib.Math.max.code, 2, 29, false, 0, 0, Lib.Math.max.name, some .int)
def mJmin : zM := (Lib.Math.min.code, 2, 29, false, 0, 0, Lib.Math.min.name, some .int)
def mX5_init : zM := (cX5_init, 1, 6, true, 1, 20, yX5_init, none)
def mX6_init : zM := (cX6_init, 1, 7, true, 1, 20, yX6_init, none)
def mX1_init : zM := (cX1_init, 2, 2, true, 1, 20, yX1_init, none)
def mX4_init : zM := (cX4_init, 1, 5, true, 1, 20, yX4_init, none)
def mX0_init : zM := (cX0_init, 1, 1, true, 1, 20, yX0_init, none)
def mX7_init : zM := (cX7_init, 2, 8, true, 2, 40, yX7_init, none)
def mX2_init : zM := (cX2_init, 2, 3, true, 3, 61, yX2_init, none)
def mX3_init : zM := (cX3_init, 1, 4, true, 1, 20, yX3_init, none)
def mJ5_init_d00df : zM := (cJ5_init_d00df, 2, 25, true, 1, 20, yJ5_init_d00df, none)
def mJ4_init_da8c8 : zM := (cJ4_init_da8c8, 1, 0, true, 2, 41, yJ4_init_da8c8, none)
def mX8_init : zM := (cX8_init, 1, 9, true, 1, 20, yX8_init, none)
def mX9_init : zM := (cX9_init, 2, 10, true, 4, 82, yX9_init, none)
def mX10_init : zM := (cX10_init, 1, 11, true, 1, 20, yX10_init, none)
def mX9_isAllowedPrime : zM := (cX9_isAllowedPrime, 5, 10, false, 0, 0, yX9_isAllowedPrime, (some .boolean))
def mX5_restart : zM := (cX5_restart, 2, 6, false, 0, 0, yX5_restart, none)
def mJ7_fill_53178 : zM := (cJ7_fill_53178, 4, 27, false, 0, 0, yJ7_fill_53178, none)
def mX6_clear : zM := (cX6_clear, 1, 7, false, 1, 23, yX6_clear, none)
def mX2_forget : zM := (cX2_forget, 1, 3, false, 0, 0, yX2_forget, none)
def mX9_setPrime : zM := (cX9_setPrime, 3, 10, false, 2, 43, yX9_setPrime, (some .int))
def mX10_isIn : zM := (cX10_isIn, 3, 11, false, 0, 0, yX10_isIn, (some .boolean))
def mX10_isPrime : zM := (cX10_isPrime, 3, 11, false, 0, 0, yX10_isPrime, (some .boolean))
def mX10_clearCurrent : zM := (cX10_clearCurrent, 2, 11, false, 0, 0, yX10_clearCurrent, none)
def mX10_setPrime : zM := (cX10_setPrime, 3, 11, false, 1, 22, yX10_setPrime, (some .int))
def mX9_prime : zM := (cX9_prime, 1, 10, false, 0, 0, yX9_prime, (some .int))
def mX10_prime : zM := (cX10_prime, 1, 11, false, 0, 0, yX10_prime, (some .int))
def mX5_isResidue : zM := (cX5_isResidue, 2, 6, false, 0, 0, yX5_isResidue, (some .boolean))
def mX5_holds : zM := (cX5_holds, 4, 6, false, 0, 0, yX5_holds, (some .boolean))
def mX5_append : zM := (cX5_append, 3, 6, false, 0, 0, yX5_append, none)
def mX9_addPoint : zM := (cX9_addPoint, 3, 10, false, 1, 23, yX9_addPoint, (some .int))
def mX10_addPoint : zM := (cX10_addPoint, 4, 11, false, 1, 22, yX10_addPoint, (some .int))
def mX5_hasIndex : zM := (cX5_hasIndex, 2, 6, false, 0, 0, yX5_hasIndex, (some .boolean))
def mX5_remove : zM := (cX5_remove, 3, 6, false, 0, 0, yX5_remove, none)
def mX9_removePoint : zM := (cX9_removePoint, 2, 10, false, 1, 22, yX9_removePoint, (some .int))
def mX10_isPoint : zM := (cX10_isPoint, 2, 11, false, 1, 22, yX10_isPoint, (some .boolean))
def mX10_removePoint : zM := (cX10_removePoint, 3, 11, false, 2, 43, yX10_removePoint, (some .int))
def mX9_pointCount : zM := (cX9_pointCount, 1, 10, false, 0, 0, yX9_pointCount, (some .int))
def mX10_pointCount : zM := (cX10_pointCount, 1, 11, false, 0, 0, yX10_pointCount, (some .int))
def mX9_pointX : zM := (cX9_pointX, 2, 10, false, 1, 21, yX9_pointX, (some .int))
def mX10_pointX : zM := (cX10_pointX, 2, 11, false, 2, 43, yX10_pointX, (some .int))
def mX9_pointY : zM := (cX9_pointY, 2, 10, false, 1, 21, yX9_pointY, (some .int))
def mX10_pointY : zM := (cX10_pointY, 2, 11, false, 2, 43, yX10_pointY, (some .int))
def mX5_isSymmetric : zM := (cX5_isSymmetric, 2, 6, false, 1, 23, yX5_isSymmetric, (some .boolean))
def mX5_mirror : zM := (cX5_mirror, 3, 6, false, 0, 0, yX5_mirror, none)
def mX9_swapCoordinates : zM := (cX9_swapCoordinates, 2, 10, false, 2, 44, yX9_swapCoordinates, (some .int))
def mX10_swapCoordinates : zM := (cX10_swapCoordinates, 5, 11, false, 0, 0, yX10_swapCoordinates, (some .int))
def mX5_transform : zM := (cX5_transform, 6, 6, false, 0, 0, yX5_transform, none)
def mX9_translate : zM := (cX9_translate, 3, 10, false, 1, 25, yX9_translate, (some .int))
def mX10_translate : zM := (cX10_translate, 4, 11, false, 1, 22, yX10_translate, (some .int))
def mX9_scale : zM := (cX9_scale, 3, 10, false, 1, 25, yX9_scale, (some .int))
def mX10_scale : zM := (cX10_scale, 4, 11, false, 1, 22, yX10_scale, (some .int))
def mX9_isExponent : zM := (cX9_isExponent, 1, 10, false, 0, 0, yX9_isExponent, (some .boolean))
def mX9_isWeight : zM := (cX9_isWeight, 2, 10, false, 0, 0, yX9_isWeight, (some .boolean))
def mX9_isOrder : zM := (cX9_isOrder, 3, 10, false, 1, 21, yX9_isOrder, (some .boolean))
def mX4_choose : zM := (cX4_choose, 4, 5, false, 0, 0, yX4_choose, none)
def mX1_restart : zM := (cX1_restart, 1, 2, false, 0, 0, yX1_restart, none)
def mX7_isClosed : zM := (cX7_isClosed, 4, 8, false, 0, 0, yX7_isClosed, (some .boolean))
def mX7_topOf : zM := (cX7_topOf, 2, 8, false, 0, 0, yX7_topOf, (some .int))
def mX4_weightOf : zM := (cX4_weightOf, 2, 5, false, 0, 0, yX4_weightOf, (some .int))
def mX4_isSmaller : zM := (cX4_isSmaller, 5, 5, false, 1, 21, yX4_isSmaller, (some .boolean))
def mX7_nextColumn : zM := (cX7_nextColumn, 4, 8, false, 2, 45, yX7_nextColumn, (some .int))
def mX5_power : zM := (cX5_power, 5, 6, false, 0, 0, yX5_power, (some .int))
def mX5_monomialAt : zM := (cX5_monomialAt, 3, 6, false, 1, 24, yX5_monomialAt, (some .int))
def mX1_addMultiple : zM := (cX1_addMultiple, 5, 2, false, 0, 0, yX1_addMultiple, none)
def mX1_reduceValues : zM := (cX1_reduceValues, 3, 2, false, 1, 24, yX1_reduceValues, none)
def mX1_firstNonzeroValue : zM := (cX1_firstNonzeroValue, 2, 2, false, 0, 0, yX1_firstNonzeroValue, (some .int))
def mX5_inverse : zM := (cX5_inverse, 3, 6, false, 0, 0, yX5_inverse, (some .int))
def mX1_keepValues : zM := (cX1_keepValues, 6, 2, false, 1, 22, yX1_keepValues, none)
def mX1_keepIfIndependent : zM := (cX1_keepIfIndependent, 3, 2, false, 2, 47, yX1_keepIfIndependent, (some .boolean))
def mX0_insertTerm : zM := (cX0_insertTerm, 5, 1, false, 0, 0, yX0_insertTerm, none)
def mX0_take : zM := (cX0_take, 5, 1, false, 1, 24, yX0_take, none)
def mX7_insertCorner : zM := (cX7_insertCorner, 6, 8, false, 2, 48, yX7_insertCorner, none)
def mX7_hasWall : zM := (cX7_hasWall, 1, 8, false, 0, 0, yX7_hasWall, (some .boolean))
def mX7_lowerWall : zM := (cX7_lowerWall, 7, 8, false, 1, 20, yX7_lowerWall, none)
def mX7_findWall : zM := (cX7_findWall, 2, 8, false, 2, 46, yX7_findWall, none)
def mX7_compute : zM := (cX7_compute, 6, 8, false, 3, 73, yX7_compute, none)
def mX9_computeOrder : zM := (cX9_computeOrder, 4, 10, false, 4, 98, yX9_computeOrder, none)
def mX9_columnHeight : zM := (cX9_columnHeight, 5, 10, false, 5, 121, yX9_columnHeight, (some .int))
def mX10_isExponent : zM := (cX10_isExponent, 1, 11, false, 1, 22, yX10_isExponent, (some .boolean))
def mX10_isWeight : zM := (cX10_isWeight, 2, 11, false, 1, 22, yX10_isWeight, (some .boolean))
def mX10_isGreater : zM := (cX10_isGreater, 10, 11, false, 0, 0, yX10_isGreater, (some .boolean))
def mX10_sort : zM := (cX10_sort, 6, 11, false, 1, 29, yX10_sort, none)
def mX10_power : zM := (cX10_power, 5, 11, false, 0, 0, yX10_power, (some .int))
def mJ9_floorMod_7cf53 : zM := (cJ9_floorMod_7cf53, 3, 29, false, 0, 0, yJ9_floorMod_7cf53, (some .int))
def mX10_reduce : zM := (cX10_reduce, 5, 11, false, 1, 24, yX10_reduce, (some .int))
def mX10_inverse : zM := (cX10_inverse, 3, 11, false, 0, 0, yX10_inverse, (some .int))
def mX10_becomesStandard : zM := (cX10_becomesStandard, 5, 11, false, 1, 22, yX10_becomesStandard, none)
def mX10_isCorner : zM := (cX10_isCorner, 2, 11, false, 0, 0, yX10_isCorner, (some .boolean))
def mX10_becomesCorner : zM := (cX10_becomesCorner, 3, 11, false, 1, 22, yX10_becomesCorner, none)
def mX10_sortCorners : zM := (cX10_sortCorners, 6, 11, false, 0, 0, yX10_sortCorners, none)
def mX10_compute : zM := (cX10_compute, 6, 11, false, 2, 54, yX10_compute, none)
def mX10_columnHeight : zM := (cX10_columnHeight, 5, 11, false, 3, 79, yX10_columnHeight, (some .int))
def mX9_cornerCount : zM := (cX9_cornerCount, 4, 10, false, 5, 121, yX9_cornerCount, (some .int))
def mX10_cornerCount : zM := (cX10_cornerCount, 4, 11, false, 3, 79, yX10_cornerCount, (some .int))
def mX7_find : zM := (cX7_find, 2, 8, false, 0, 0, yX7_find, (some (.object "GroebnerFan$BasisPolynomial")))
def mX9_decimalExponents : zM := (cX9_decimalExponents, 1, 10, false, 0, 0, yX9_decimalExponents, (some .int))
def mX9_corner : zM := (cX9_corner, 6, 10, false, 5, 121, yX9_corner, (some .int))
def mX10_exponents : zM := (cX10_exponents, 1, 11, false, 0, 0, yX10_exponents, (some .int))
def mX10_corner : zM := (cX10_corner, 5, 11, false, 3, 79, yX10_corner, (some .int))
def mX2_refresh : zM := (cX2_refresh, 5, 3, false, 4, 98, yX2_refresh, none)
def mX9_coneCount : zM := (cX9_coneCount, 1, 10, false, 5, 122, yX9_coneCount, (some .int))
def mX10_divisor : zM := (cX10_divisor, 5, 11, false, 0, 0, yX10_divisor, (some .int))
def mX10_wall : zM := (cX10_wall, 8, 11, false, 1, 24, yX10_wall, none)
def mX10_keep : zM := (cX10_keep, 4, 11, false, 2, 51, yX10_keep, none)
def mX10_fan : zM := (cX10_fan, 4, 11, false, 3, 79, yX10_fan, none)
def mX10_coneCount : zM := (cX10_coneCount, 1, 11, false, 4, 102, yX10_coneCount, (some .int))
def mX2_find : zM := (cX2_find, 2, 3, false, 0, 0, yX2_find, (some (.object "GroebnerFan$ReducedBasis")))
def mX9_findCone : zM := (cX9_findCone, 2, 10, false, 5, 122, yX9_findCone, (some (.object "GroebnerFan$ReducedBasis")))
def mX9_wallNumerator : zM := (cX9_wallNumerator, 3, 10, false, 6, 143, yX9_wallNumerator, (some .int))
def mX10_isCone : zM := (cX10_isCone, 2, 11, false, 4, 102, yX10_isCone, (some .boolean))
def mX10_wallNumerator : zM := (cX10_wallNumerator, 2, 11, false, 5, 123, yX10_wallNumerator, (some .int))
def mX9_wallDenominator : zM := (cX9_wallDenominator, 3, 10, false, 6, 143, yX9_wallDenominator, (some .int))
def mX10_wallDenominator : zM := (cX10_wallDenominator, 2, 11, false, 5, 123, yX10_wallDenominator, (some .int))
def mX7_hasAboveWall : zM := (cX7_hasAboveWall, 3, 8, false, 1, 20, yX7_hasAboveWall, (some .boolean))
def mX2_firstWithin : zM := (cX2_firstWithin, 4, 3, false, 2, 42, yX2_firstWithin, (some .int))
def mX9_firstConeContaining : zM := (cX9_firstConeContaining, 3, 10, false, 5, 122, yX9_firstConeContaining, (some .int))
def mX10_contains : zM := (cX10_contains, 6, 11, false, 0, 0, yX10_contains, (some .boolean))
def mX10_firstConeContaining : zM := (cX10_firstConeContaining, 4, 11, false, 4, 102, yX10_firstConeContaining, (some .int))
def mX7_hasOnWall : zM := (cX7_hasOnWall, 3, 8, false, 1, 20, yX7_hasOnWall, (some .boolean))
def mX9_conesContaining : zM := (cX9_conesContaining, 4, 10, false, 5, 122, yX9_conesContaining, (some .int))
def mX10_conesContaining : zM := (cX10_conesContaining, 5, 11, false, 4, 102, yX10_conesContaining, (some .int))
def mX9_coneHeight : zM := (cX9_coneHeight, 4, 10, false, 6, 143, yX9_coneHeight, (some .int))
def mX10_coneHeight : zM := (cX10_coneHeight, 3, 11, false, 5, 123, yX10_coneHeight, (some .int))
def mX9_basisSize : zM := (cX9_basisSize, 3, 10, false, 6, 143, yX9_basisSize, (some .int))
def mX10_basisSize : zM := (cX10_basisSize, 2, 11, false, 5, 123, yX10_basisSize, (some .int))
def mX9_findBasisPolynomial : zM := (cX9_findBasisPolynomial, 4, 10, false, 6, 143, yX9_findBasisPolynomial, (some (.object "GroebnerFan$BasisPolynomial")))
def mX9_basisCorner : zM := (cX9_basisCorner, 4, 10, false, 7, 166, yX9_basisCorner, (some .int))
def mX10_isBasis : zM := (cX10_isBasis, 3, 11, false, 5, 123, yX10_isBasis, (some .boolean))
def mX10_basisCorner : zM := (cX10_basisCorner, 3, 11, false, 6, 145, yX10_basisCorner, (some .int))
def mX0_factorOf : zM := (cX0_factorOf, 3, 1, false, 0, 0, yX0_factorOf, (some .int))
def mX9_basisCoefficient : zM := (cX9_basisCoefficient, 6, 10, false, 7, 166, yX9_basisCoefficient, (some .int))
def mX10_cell : zM := (cX10_cell, 4, 11, false, 0, 0, yX10_cell, (some .int))
def mX10_basisCoefficient : zM := (cX10_basisCoefficient, 6, 11, false, 6, 145, yX10_basisCoefficient, (some .int))
def mX7_hasCorner : zM := (cX7_hasCorner, 3, 8, false, 0, 0, yX7_hasCorner, (some .boolean))
def mX7_countCornersOutside : zM := (cX7_countCornersOutside, 4, 8, false, 1, 22, yX7_countCornersOutside, (some .int))
def mX9_changedCorners : zM := (cX9_changedCorners, 4, 10, false, 6, 143, yX9_changedCorners, (some .int))
def mX10_changedCorners : zM := (cX10_changedCorners, 6, 11, false, 5, 123, yX10_changedCorners, (some .int))
def mX0_hasTermsOf : zM := (cX0_hasTermsOf, 3, 1, false, 0, 0, yX0_hasTermsOf, (some .boolean))
def mX7_holdsTermsOf : zM := (cX7_holdsTermsOf, 3, 8, false, 1, 22, yX7_holdsTermsOf, (some .boolean))
def mX2_isBefore : zM := (cX2_isBefore, 4, 3, false, 2, 44, yX2_isBefore, (some .boolean))
def mX2_countDistinctPolynomials : zM := (cX2_countDistinctPolynomials, 5, 3, false, 3, 67, yX2_countDistinctPolynomials, (some .int))
def mX9_universalSize : zM := (cX9_universalSize, 1, 10, false, 5, 122, yX9_universalSize, (some .int))
def mX10_isSame : zM := (cX10_isSame, 7, 11, false, 1, 23, yX10_isSame, (some .boolean))
def mX10_isNew : zM := (cX10_isNew, 6, 11, false, 2, 49, yX10_isNew, (some .boolean))
def mX10_universalSize : zM := (cX10_universalSize, 4, 11, false, 4, 102, yX10_universalSize, (some .int))
def mX0_degree : zM := (cX0_degree, 3, 1, false, 1, 21, yX0_degree, (some .int))
def mX2_greatestDegree : zM := (cX2_greatestDegree, 5, 3, false, 2, 43, yX2_greatestDegree, (some .int))
def mX9_universalDegree : zM := (cX9_universalDegree, 1, 10, false, 5, 122, yX9_universalDegree, (some .int))
def mX10_universalDegree : zM := (cX10_universalDegree, 5, 11, false, 4, 102, yX10_universalDegree, (some .int))
def mX7_rowLength : zM := (cX7_rowLength, 7, 8, false, 0, 0, yX7_rowLength, (some .int))
def mX7_isMirrorOf : zM := (cX7_isMirrorOf, 3, 8, false, 1, 26, yX7_isMirrorOf, (some .boolean))
def mX2_firstMirrorOf : zM := (cX2_firstMirrorOf, 3, 3, false, 2, 48, yX2_firstMirrorOf, (some .int))
def mX9_mirroredCone : zM := (cX9_mirroredCone, 4, 10, false, 6, 143, yX9_mirroredCone, (some .int))
def mX10_isMirrored : zM := (cX10_isMirrored, 6, 11, false, 0, 0, yX10_isMirrored, (some .boolean))
def mX10_mirroredCone : zM := (cX10_mirroredCone, 3, 11, false, 5, 123, yX10_mirroredCone, (some .int))
def mX7_standardDegree : zM := (cX7_standardDegree, 3, 8, false, 1, 21, yX7_standardDegree, (some .int))
def mX2_firstFlattest : zM := (cX2_firstFlattest, 3, 3, false, 2, 43, yX2_firstFlattest, (some .int))
def mX9_flattestCone : zM := (cX9_flattestCone, 1, 10, false, 5, 122, yX9_flattestCone, (some .int))
def mX10_steepness : zM := (cX10_steepness, 5, 11, false, 1, 21, yX10_steepness, (some .int))
def mX10_flattestCone : zM := (cX10_flattestCone, 3, 11, false, 4, 102, yX10_flattestCone, (some .int))
def mX5_residue : zM := (cX5_residue, 2, 6, false, 1, 22, yX5_residue, (some .int))
def mX9_setCoefficient : zM := (cX9_setCoefficient, 6, 10, false, 2, 43, yX9_setCoefficient, (some .int))
def mX10_setCoefficient : zM := (cX10_setCoefficient, 5, 11, false, 2, 42, yX10_setCoefficient, (some .int))
def mX9_coefficient : zM := (cX9_coefficient, 3, 10, false, 1, 20, yX9_coefficient, (some .int))
def mX10_coefficient : zM := (cX10_coefficient, 3, 11, false, 2, 42, yX10_coefficient, (some .int))
def mX6_countTerms : zM := (cX6_countTerms, 6, 7, false, 0, 0, yX6_countTerms, (some .int))
def mX9_termCount : zM := (cX9_termCount, 1, 10, false, 1, 25, yX9_termCount, (some .int))
def mX10_termCount : zM := (cX10_termCount, 3, 11, false, 0, 0, yX10_termCount, (some .int))
def mX6_valueAt : zM := (cX6_valueAt, 7, 7, false, 0, 0, yX6_valueAt, (some .int))
def mX9_evaluate : zM := (cX9_evaluate, 2, 10, false, 1, 26, yX9_evaluate, (some .int))
def mX10_valueAt : zM := (cX10_valueAt, 4, 11, false, 1, 24, yX10_valueAt, (some .int))
def mX10_evaluate : zM := (cX10_evaluate, 2, 11, false, 2, 47, yX10_evaluate, (some .int))
def mX9_isVanishing : zM := (cX9_isVanishing, 2, 10, false, 1, 26, yX9_isVanishing, (some .int))
def mX10_isVanishing : zM := (cX10_isVanishing, 3, 11, false, 2, 47, yX10_isVanishing, (some .int))
def mX1_keepStandardMonomials : zM := (cX1_keepStandardMonomials, 4, 2, false, 3, 69, yX1_keepStandardMonomials, none)
def mX9_replaceByInterpolation : zM := (cX9_replaceByInterpolation, 2, 10, false, 2, 46, yX9_replaceByInterpolation, (some .int))
def mX9_reduceToNormalForm : zM := (cX9_reduceToNormalForm, 4, 10, false, 6, 143, yX9_reduceToNormalForm, (some .int))
def mX10_setUp : zM := (cX10_setUp, 5, 11, false, 1, 24, yX10_setUp, none)
def mX10_exchange : zM := (cX10_exchange, 5, 11, false, 0, 0, yX10_exchange, none)
def mX10_solve : zM := (cX10_solve, 8, 11, false, 2, 48, yX10_solve, (some .int))
def mX10_reduceToNormalForm : zM := (cX10_reduceToNormalForm, 3, 11, false, 5, 123, yX10_reduceToNormalForm, (some .int))
def mX9_findSlot : zM := (cX9_findSlot, 2, 10, false, 0, 0, yX9_findSlot, (some (.object "GroebnerFan$Slot")))
def mX8_errorForArrays : zM := (cX8_errorForArrays, 1, 9, false, 0, 0, yX8_errorForArrays, (some .int))
def mX9_interpolate : zM := (cX9_interpolate, 6, 10, false, 6, 143, yX9_interpolate, (some .int))
def mX10_isSlot : zM := (cX10_isSlot, 1, 11, false, 1, 22, yX10_isSlot, (some .boolean))
def mX10_interpolate : zM := (cX10_interpolate, 4, 11, false, 5, 123, yX10_interpolate, (some .int))
def mX9_loadBasisPolynomial : zM := (cX9_loadBasisPolynomial, 5, 10, false, 7, 166, yX9_loadBasisPolynomial, (some .int))
def mX10_loadBasisPolynomial : zM := (cX10_loadBasisPolynomial, 4, 11, false, 6, 145, yX10_loadBasisPolynomial, (some .int))
def mX3_append : zM := (cX3_append, 2, 4, false, 0, 0, yX3_append, none)
def mX9_appendInput : zM := (cX9_appendInput, 2, 10, false, 1, 21, yX9_appendInput, (some .int))
def mX10_appendInput : zM := (cX10_appendInput, 2, 11, false, 1, 22, yX10_appendInput, (some .int))
def mX9_inputLength : zM := (cX9_inputLength, 1, 10, false, 0, 0, yX9_inputLength, (some .int))
def mX10_inputLength : zM := (cX10_inputLength, 1, 11, false, 0, 0, yX10_inputLength, (some .int))
def mX3_isDigit : zM := (cX3_isDigit, 1, 4, false, 0, 0, yX3_isDigit, (some .boolean))
def mX3_signBehindNumber : zM := (cX3_signBehindNumber, 1, 4, false, 0, 0, yX3_signBehindNumber, (some .int))
def mX3_appendNumber : zM := (cX3_appendNumber, 2, 4, false, 0, 0, yX3_appendNumber, none)
def mX3_readNumbers : zM := (cX3_readNumbers, 5, 4, false, 1, 21, yX3_readNumbers, (some .int))
def mX9_parsePoints : zM := (cX9_parsePoints, 4, 10, false, 2, 45, yX9_parsePoints, (some .int))
def mX10_isAt : zM := (cX10_isAt, 3, 11, false, 1, 22, yX10_isAt, (some .boolean))
def mX10_takesNumber : zM := (cX10_takesNumber, 1, 11, false, 2, 44, yX10_takesNumber, (some .boolean))
def mX10_takesPoint : zM := (cX10_takesPoint, 3, 11, false, 3, 64, yX10_takesPoint, (some .int))
def mX10_takesList : zM := (cX10_takesList, 5, 11, false, 4, 86, yX10_takesList, (some .int))
def mX10_parsePoints : zM := (cX10_parsePoints, 1, 11, false, 5, 110, yX10_parsePoints, (some .int))
def mJ8_newLength_cabcc : zM := (cJ8_newLength_cabcc, 4, 28, false, 1, 21, yJ8_newLength_cabcc, (some .int))
def mJ5_newCapacity_0f7a4 : zM := (cJ5_newCapacity_0f7a4, 6, 25, false, 2, 44, yJ5_newCapacity_0f7a4, (some .int))
def mJ7_copyOf_9075b : zM := (cJ7_copyOf_9075b, 3, 27, false, 1, 40, yJ7_copyOf_9075b, (some (.array .byte)))
def mJ5_ensureCapacityInternal_d00df : zM := (cJ5_ensureCapacityInternal_d00df, 3, 25, false, 3, 69, yJ5_ensureCapacityInternal_d00df, none)
def mJ5_isLatin1_aae02 : zM := (cJ5_isLatin1_aae02, 1, 25, false, 0, 0, yJ5_isLatin1_aae02, (some .boolean))
def mJ5_setLength_d00df : zM := (cJ5_setLength_d00df, 2, 25, false, 4, 91, yJ5_setLength_d00df, none)
def mJ4_setLength_d00df : zM := (cJ4_setLength_d00df, 2, 0, false, 5, 112, yJ4_setLength_d00df, none)
def mJ6_stringSize_0f7a4 : zM := (cJ6_stringSize_0f7a4, 4, 26, false, 0, 0, yJ6_stringSize_0f7a4, (some .int))
def mJ6_getChars_ba4f3 : zM := (cJ6_getChars_ba4f3, 7, 26, false, 0, 0, yJ6_getChars_ba4f3, (some .int))
def mJ5_append_c97b9 : zM := (cJ5_append_c97b9, 4, 25, false, 4, 91, yJ5_append_c97b9, (some (.object "java/lang/AbstractStringBuilder")))
def mJ4_append_bf812 : zM := (cJ4_append_bf812, 2, 0, false, 5, 114, yJ4_append_bf812, (some (.object "java/lang/StringBuilder")))
def mJ1_canEncode_fc78d : zM := (cJ1_canEncode_fc78d, 1, 22, false, 0, 0, yJ1_canEncode_fc78d, (some .boolean))
def mJ5_append_3fe6f : zM := (cJ5_append_3fe6f, 2, 25, false, 4, 91, yJ5_append_3fe6f, (some (.object "java/lang/AbstractStringBuilder")))
def mJ4_append_cf468 : zM := (cJ4_append_cf468, 2, 0, false, 5, 112, yJ4_append_cf468, (some (.object "java/lang/StringBuilder")))
def mX9_writeTerm : zM := (cX9_writeTerm, 5, 10, false, 6, 135, yX9_writeTerm, none)
def mJ5_length_8abf5 : zM := (cJ5_length_8abf5, 1, 25, false, 0, 0, yJ5_length_8abf5, (some .int))
def mJ4_length_8abf5 : zM := (cJ4_length_8abf5, 1, 0, false, 1, 20, yJ4_length_8abf5, (some .int))
def mX9_format : zM := (cX9_format, 5, 10, false, 7, 166, yX9_format, (some .int))
def mX10_write : zM := (cX10_write, 2, 11, false, 0, 0, yX10_write, none)
def mX10_writeTerm : zM := (cX10_writeTerm, 3, 11, false, 1, 21, yX10_writeTerm, none)
def mX10_format : zM := (cX10_format, 5, 11, false, 6, 145, yX10_format, (some .int))
def mJ3_checkIndex_8e157 : zM := (cJ3_checkIndex_8e157, 3, 24, false, 0, 0, yJ3_checkIndex_8e157, (some .int))
def mJ0_checkIndex_df160 : zM := (cJ0_checkIndex_df160, 2, 21, false, 1, 22, yJ0_checkIndex_df160, none)
def mJ5_charAt_5068e : zM := (cJ5_charAt_5068e, 5, 25, false, 2, 43, yJ5_charAt_5068e, (some .char))
def mJ4_charAt_5068e : zM := (cJ4_charAt_5068e, 2, 0, false, 3, 67, yJ4_charAt_5068e, (some .char))
def mX9_outputByte : zM := (cX9_outputByte, 2, 10, false, 4, 88, yX9_outputByte, (some .int))
def mX10_outputByte : zM := (cX10_outputByte, 2, 11, false, 1, 22, yX10_outputByte, (some .int))
def mX8_holdZeros : zM := (cX8_holdZeros, 2, 9, false, 1, 23, yX8_holdZeros, none)
def mX9_newArray : zM := (cX9_newArray, 4, 10, false, 2, 44, yX9_newArray, (some .int))
def mX10_newArray : zM := (cX10_newArray, 4, 11, false, 2, 42, yX10_newArray, (some .int))
def mX9_setElement : zM := (cX9_setElement, 6, 10, false, 1, 21, yX9_setElement, (some .int))
def mX10_amiss : zM := (cX10_amiss, 3, 11, false, 0, 0, yX10_amiss, (some .int))
def mX10_element : zM := (cX10_element, 4, 11, false, 2, 42, yX10_element, (some .int))
def mX10_setElement : zM := (cX10_setElement, 5, 11, false, 3, 65, yX10_setElement, (some .int))
def mX9_element : zM := (cX9_element, 4, 10, false, 1, 21, yX9_element, (some .int))
def mX8_holdPolynomial : zM := (cX8_holdPolynomial, 2, 9, false, 1, 40, yX8_holdPolynomial, none)
def mX9_storePolynomial : zM := (cX9_storePolynomial, 3, 10, false, 2, 61, yX9_storePolynomial, (some .int))
def mX10_storePolynomial : zM := (cX10_storePolynomial, 3, 11, false, 2, 42, yX10_storePolynomial, (some .int))
def mX9_loadPolynomial : zM := (cX9_loadPolynomial, 4, 10, false, 2, 43, yX9_loadPolynomial, (some .int))
def mX10_loadPolynomial : zM := (cX10_loadPolynomial, 4, 11, false, 2, 42, yX10_loadPolynomial, (some .int))
def mX9_clearSlot : zM := (cX9_clearSlot, 4, 10, false, 1, 21, yX9_clearSlot, (some .int))
def mX10_clearSlot : zM := (cX10_clearSlot, 3, 11, false, 2, 42, yX10_clearSlot, (some .int))
def mX9_firstDifference : zM := (cX9_firstDifference, 6, 10, false, 6, 143, yX9_firstDifference, (some .int))
def mX10_firstDifference : zM := (cX10_firstDifference, 5, 11, false, 5, 123, yX10_firstDifference, (some .int))
def mX5_copyFrom : zM := (cX5_copyFrom, 2, 6, false, 1, 40, yX5_copyFrom, none)
def mX6_copyFrom : zM := (cX6_copyFrom, 2, 7, false, 1, 40, yX6_copyFrom, none)
def mX9_saveSnapshot : zM := (cX9_saveSnapshot, 1, 10, false, 2, 61, yX9_saveSnapshot, (some .int))
def mX10_saveSnapshot : zM := (cX10_saveSnapshot, 2, 11, false, 0, 0, yX10_saveSnapshot, (some .int))
def mX9_restoreSnapshot : zM := (cX9_restoreSnapshot, 1, 10, false, 2, 61, yX9_restoreSnapshot, (some .int))
def mX10_restoreSnapshot : zM := (cX10_restoreSnapshot, 2, 11, false, 0, 0, yX10_restoreSnapshot, (some .int))
def mL_law : zM := (cL_law, 4, 20, false, 8, 191, yL_law, (some .boolean))
theorem z_found {α : Type} {L : List ((Nat × Nat) × α)} {c i : Nat} {v : α} (h : (L.find? (fun r => r.1.1 == c && r.1.2 == i)).map (fun r => r.2) = some v) : ((c, i), v) ∈ L := by
  cases hf : L.find? (fun r => r.1.1 == c && r.1.2 == i) with
  | none => rw [hf] at h; cases h
  | some r =>
    rw [hf] at h
    have h1 := List.find?_some hf
    have h2 := List.mem_of_find?_eq_some hf
    simp only [Bool.and_eq_true, beq_iff_eq] at h1
    obtain ⟨⟨a, b⟩, w⟩ := r
    cases h
    obtain ⟨rfl, rfl⟩ := h1
    exact h2
theorem z_find {α : Type} : ∀ {L : List ((Nat × Nat) × α)} {k c i : Nat} {v : α}, (L.map (fun r => r.1)).Nodup → L[k]? = some ((c, i), v) → (L.find? (fun r => r.1.1 == c && r.1.2 == i)).map (fun r => r.2) = some v
  | [], k, c, i, v, _, h => by simp at h
  | r :: L, 0, c, i, v, _, h => by
    simp only [List.getElem?_cons_zero, Option.some.injEq] at h
    subst h
    simp [List.find?_cons]
  | r :: L, k + 1, c, i, v, hn, h => by
    rw [List.getElem?_cons_succ] at h
    rw [List.map_cons, List.nodup_cons] at hn
    have hm : (c, i) ∈ L.map (fun r => r.1) := List.mem_map.mpr ⟨_, List.mem_of_getElem? h, rfl⟩
    have hne : (r.1.1 == c && r.1.2 == i) = false := by
      cases hb : (r.1.1 == c && r.1.2 == i) with
      | false => rfl
      | true =>
        simp only [Bool.and_eq_true, beq_iff_eq] at hb
        exact absurd (show r.1 ∈ L.map (fun r => r.1) by rw [show r.1 = (c, i) from Prod.ext hb.1 hb.2]; exact hm) hn.1
    rw [List.find?_cons, hne]
    exact z_find hn.2 h
def zkmL0 : List ((Nat × Nat) × (Nat × Nat × Nat × zM)) := [((0, 1), (2, 1, 0, mJ5_init_d00df)), ((0, 50), (5, 1, 0, mJ5_append_3fe6f)), ((0, 53), (5, 1, 0, mJ5_append_c97b9)), ((0, 329), (5, 1, 0, mJ5_charAt_5068e)), ((0, 333), (5, 1, 0, mJ5_setLength_d00df)), ((0, 343), (5, 0, 0, mJ5_length_8abf5)), ((1, 3), (6, 0, 0, mJmax)), ((1, 25), (1, 2, 1, mX0_insertTerm)), ((1, 45), (0, 2, 0, mJmax)), ((2, 3), (6, 0, 0, mJmax)), ((2, 40), (1, 0, 2, mX1_restart)), ((2, 48), (1, 1, 2, mX1_keepIfIndependent)), ((2, 55), (1, 2, 6, mX5_monomialAt)), ((2, 59), (1, 0, 2, mX1_reduceValues)), ((2, 62), (1, 0, 2, mX1_firstNonzeroValue)), ((2, 66), (1, 2, 2, mX1_keepValues)), ((2, 70), (0, 2, 0, mJ7_fill_53178)), ((2, 79), (1, 3, 2, mX1_addMultiple)), ((2, 83), (1, 1, 6, mX5_inverse)), ((3, 3), (6, 0, 0, mJmax)), ((3, 21), (2, 0, 0, mX7_init)), ((3, 22), (1, 3, 5, mX4_choose)), ((3, 28), (1, 2, 8, mX7_compute)), ((3, 32), (1, 0, 8, mX7_hasWall)), ((3, 42), (1, 2, 8, mX7_hasAboveWall)), ((3, 51), (1, 2, 3, mX2_isBefore)), ((3, 55), (1, 1, 8, mX7_holdsTermsOf)), ((3, 59), (1, 0, 1, mX0_degree)), ((3, 65), (0, 2, 0, mJmax)), ((3, 71), (1, 1, 8, mX7_isMirrorOf)), ((3, 75), (1, 0, 8, mX7_standardDegree)), ((4, 3), (6, 0, 0, mJmax)), ((4, 26), (0, 1, 0, mX3_isDigit)), ((4, 30), (1, 0, 4, mX3_signBehindNumber)), ((4, 34), (1, 1, 4, mX3_appendNumber)), ((5, 3), (6, 0, 0, mJmax)), ((5, 21), (1, 1, 5, mX4_weightOf)), ((6, 3), (6, 0, 0, mJmax)), ((6, 25), (7, 5, 0, mJmax)), ((6, 31), (0, 2, 0, mJ9_floorMod_7cf53))]
def zkmL1 : List ((Nat × Nat) × (Nat × Nat × Nat × zM)) := [((6, 37), (1, 2, 6, mX5_holds)), ((6, 41), (1, 2, 6, mX5_power)), ((7, 3), (6, 0, 0, mJmax)), ((7, 15), (0, 2, 0, mJ7_fill_53178)), ((7, 21), (7, 5, 0, mJmax)), ((8, 3), (6, 0, 0, mJmax)), ((8, 31), (3, 0, 0, mX0_init)), ((8, 32), (0, 2, 0, mJ7_fill_53178)), ((8, 38), (1, 0, 2, mX1_restart)), ((8, 43), (1, 1, 8, mX7_nextColumn)), ((8, 47), (1, 1, 8, mX7_topOf)), ((8, 51), (1, 1, 2, mX1_keepIfIndependent)), ((8, 55), (1, 2, 8, mX7_insertCorner)), ((8, 59), (1, 0, 8, mX7_findWall)), ((8, 62), (1, 1, 8, mX7_isClosed)), ((8, 65), (1, 2, 5, mX4_isSmaller)), ((8, 74), (1, 2, 1, mX0_take)), ((8, 77), (1, 1, 8, mX7_lowerWall)), ((8, 85), (1, 0, 8, mX7_hasWall)), ((8, 89), (1, 1, 8, mX7_hasCorner)), ((8, 92), (1, 1, 1, mX0_hasTermsOf)), ((8, 96), (1, 1, 8, mX7_rowLength)), ((8, 99), (0, 2, 0, mJmax)), ((9, 3), (6, 0, 0, mJmax)), ((9, 22), (0, 2, 0, mJ7_fill_53178)), ((9, 33), (7, 5, 0, mJmax)), ((10, 3), (6, 0, 0, mJmax)), ((10, 11), (3, 0, 0, mX5_init)), ((10, 18), (3, 0, 0, mX6_init)), ((10, 35), (2, 1, 0, mX1_init)), ((10, 44), (3, 0, 0, mX4_init)), ((10, 51), (2, 0, 0, mX7_init)), ((10, 58), (2, 0, 0, mX2_init)), ((10, 65), (3, 0, 0, mX3_init)), ((10, 72), (2, 0, 0, mJ4_init_da8c8)), ((10, 83), (3, 0, 0, mX8_init)), ((10, 84), (0, 1, 0, mX9_isAllowedPrime)), ((10, 92), (1, 1, 6, mX5_restart)), ((10, 96), (1, 0, 7, mX6_clear)), ((10, 99), (1, 0, 3, mX2_forget))]
def zkmL2 : List ((Nat × Nat) × (Nat × Nat × Nat × zM)) := [((10, 102), (1, 1, 6, mX5_isResidue)), ((10, 105), (1, 2, 6, mX5_holds)), ((10, 112), (1, 2, 6, mX5_append)), ((10, 116), (1, 1, 6, mX5_hasIndex)), ((10, 119), (1, 1, 6, mX5_remove)), ((10, 129), (1, 0, 6, mX5_isSymmetric)), ((10, 133), (1, 0, 6, mX5_mirror)), ((10, 136), (1, 4, 6, mX5_transform)), ((10, 140), (0, 1, 0, mX9_isExponent)), ((10, 143), (0, 3, 0, mX9_isOrder)), ((10, 147), (1, 3, 10, mX9_computeOrder)), ((10, 155), (1, 1, 8, mX7_find)), ((10, 164), (0, 1, 0, mX9_decimalExponents)), ((10, 168), (1, 2, 3, mX2_refresh)), ((10, 173), (1, 1, 10, mX9_findCone)), ((10, 177), (1, 0, 8, mX7_hasWall)), ((10, 186), (0, 2, 0, mX9_isWeight)), ((10, 189), (1, 2, 3, mX2_firstWithin)), ((10, 193), (1, 1, 3, mX2_find)), ((10, 195), (1, 2, 8, mX7_hasOnWall)), ((10, 198), (1, 2, 10, mX9_findBasisPolynomial)), ((10, 202), (1, 1, 1, mX0_factorOf)), ((10, 205), (1, 1, 8, mX7_countCornersOutside)), ((10, 209), (1, 0, 3, mX2_countDistinctPolynomials)), ((10, 213), (1, 0, 3, mX2_greatestDegree)), ((10, 216), (1, 1, 3, mX2_firstMirrorOf)), ((10, 219), (1, 0, 3, mX2_firstFlattest)), ((10, 225), (1, 1, 6, mX5_residue)), ((10, 228), (1, 0, 7, mX6_countTerms)), ((10, 231), (1, 2, 7, mX6_valueAt)), ((10, 235), (1, 1, 2, mX1_keepStandardMonomials)), ((10, 242), (1, 0, 10, mX9_replaceByInterpolation)), ((10, 245), (1, 1, 10, mX9_findSlot)), ((10, 252), (1, 0, 9, mX8_errorForArrays)), ((10, 267), (1, 1, 4, mX3_append)), ((10, 269), (1, 0, 4, mX3_readNumbers)), ((10, 276), (1, 2, 10, mX9_addPoint)), ((10, 279), (1, 1, 0, mJ4_setLength_d00df)), ((10, 282), (1, 2, 10, mX9_writeTerm)), ((10, 285), (1, 1, 0, mJ4_append_cf468))]
def zkmL3 : List ((Nat × Nat) × (Nat × Nat × Nat × zM)) := [((10, 288), (1, 0, 0, mJ4_length_8abf5)), ((10, 290), (1, 1, 0, mJ4_charAt_5068e)), ((10, 294), (1, 1, 9, mX8_holdZeros)), ((10, 297), (1, 1, 9, mX8_holdPolynomial)), ((10, 301), (1, 1, 6, mX5_copyFrom)), ((10, 304), (1, 1, 7, mX6_copyFrom)), ((10, 309), (1, 3, 5, mX4_choose)), ((10, 312), (1, 2, 8, mX7_compute)), ((10, 315), (1, 0, 2, mX1_reduceValues)), ((10, 323), (1, 1, 0, mJ4_append_bf812)), ((11, 1), (6, 0, 0, mJmax)), ((11, 114), (0, 3, 0, mX10_isIn)), ((11, 118), (0, 1, 0, mX10_isPrime)), ((11, 126), (1, 0, 11, mX10_clearCurrent)), ((11, 129), (1, 1, 11, mX10_isPoint)), ((11, 132), (0, 5, 0, mX10_isGreater)), ((11, 136), (1, 2, 11, mX10_power)), ((11, 143), (0, 2, 0, mJ9_floorMod_7cf53)), ((11, 148), (1, 1, 11, mX10_inverse)), ((11, 155), (1, 3, 11, mX10_sort)), ((11, 159), (1, 1, 11, mX10_reduce)), ((11, 162), (1, 2, 11, mX10_becomesStandard)), ((11, 166), (1, 1, 11, mX10_isCorner)), ((11, 169), (1, 1, 11, mX10_becomesCorner)), ((11, 173), (1, 0, 11, mX10_sortCorners)), ((11, 176), (0, 1, 0, mX10_isExponent)), ((11, 179), (0, 2, 0, mX10_isWeight)), ((11, 183), (1, 3, 11, mX10_compute)), ((11, 186), (0, 1, 0, mX10_exponents)), ((11, 189), (0, 2, 0, mX10_divisor)), ((11, 192), (1, 1, 11, mX10_wall)), ((11, 198), (1, 1, 11, mX10_keep)), ((11, 201), (1, 0, 11, mX10_fan)), ((11, 204), (1, 1, 11, mX10_isCone)), ((11, 207), (1, 3, 11, mX10_contains)), ((11, 210), (1, 2, 11, mX10_isBasis)), ((11, 213), (1, 3, 11, mX10_cell)), ((11, 217), (1, 4, 11, mX10_isSame)), ((11, 221), (1, 2, 11, mX10_isNew)), ((11, 224), (0, 2, 0, mJmax))]
def zkmL4 : List ((Nat × Nat) × (Nat × Nat × Nat × zM)) := [((11, 227), (1, 2, 11, mX10_isMirrored)), ((11, 230), (1, 1, 11, mX10_steepness)), ((11, 233), (1, 1, 11, mX10_valueAt)), ((11, 236), (1, 1, 11, mX10_setUp)), ((11, 239), (1, 2, 11, mX10_exchange)), ((11, 242), (1, 0, 11, mX10_termCount)), ((11, 246), (1, 1, 11, mX10_solve)), ((11, 249), (0, 1, 0, mX10_isSlot)), ((11, 261), (1, 2, 11, mX10_isAt)), ((11, 267), (1, 0, 11, mX10_takesNumber)), ((11, 271), (1, 2, 11, mX10_addPoint)), ((11, 274), (1, 1, 11, mX10_takesPoint)), ((11, 278), (1, 1, 11, mX10_takesList)), ((11, 284), (1, 1, 11, mX10_write)), ((11, 287), (1, 2, 11, mX10_writeTerm)), ((11, 290), (1, 2, 11, mX10_element)), ((11, 293), (1, 2, 11, mX10_amiss)), ((20, 9), (2, 0, 0, mX9_init)), ((20, 12), (2, 0, 0, mX10_init)), ((20, 13), (1, 1, 10, mX9_setPrime)), ((20, 17), (1, 1, 11, mX10_setPrime)), ((20, 18), (1, 0, 10, mX9_prime)), ((20, 22), (1, 0, 11, mX10_prime)), ((20, 23), (1, 2, 10, mX9_addPoint)), ((20, 27), (1, 2, 11, mX10_addPoint)), ((20, 28), (1, 1, 10, mX9_removePoint)), ((20, 31), (1, 1, 11, mX10_removePoint)), ((20, 32), (1, 0, 10, mX9_pointCount)), ((20, 35), (1, 0, 11, mX10_pointCount)), ((20, 36), (1, 1, 10, mX9_pointX)), ((20, 39), (1, 1, 11, mX10_pointX)), ((20, 40), (1, 1, 10, mX9_pointY)), ((20, 43), (1, 1, 11, mX10_pointY)), ((20, 44), (1, 0, 10, mX9_swapCoordinates)), ((20, 47), (1, 0, 11, mX10_swapCoordinates)), ((20, 48), (1, 2, 10, mX9_translate)), ((20, 51), (1, 2, 11, mX10_translate)), ((20, 52), (1, 2, 10, mX9_scale)), ((20, 55), (1, 2, 11, mX10_scale)), ((20, 56), (1, 4, 10, mX9_columnHeight))]
def zkmL5 : List ((Nat × Nat) × (Nat × Nat × Nat × zM)) := [((20, 60), (1, 4, 11, mX10_columnHeight)), ((20, 61), (1, 3, 10, mX9_cornerCount)), ((20, 65), (1, 3, 11, mX10_cornerCount)), ((20, 66), (1, 4, 10, mX9_corner)), ((20, 69), (1, 4, 11, mX10_corner)), ((20, 70), (1, 0, 10, mX9_coneCount)), ((20, 73), (1, 0, 11, mX10_coneCount)), ((20, 74), (1, 1, 10, mX9_wallNumerator)), ((20, 77), (1, 1, 11, mX10_wallNumerator)), ((20, 78), (1, 1, 10, mX9_wallDenominator)), ((20, 81), (1, 1, 11, mX10_wallDenominator)), ((20, 82), (1, 2, 10, mX9_firstConeContaining)), ((20, 85), (1, 2, 11, mX10_firstConeContaining)), ((20, 86), (1, 2, 10, mX9_conesContaining)), ((20, 89), (1, 2, 11, mX10_conesContaining)), ((20, 90), (1, 2, 10, mX9_coneHeight)), ((20, 93), (1, 2, 11, mX10_coneHeight)), ((20, 94), (1, 1, 10, mX9_basisSize)), ((20, 97), (1, 1, 11, mX10_basisSize)), ((20, 98), (1, 2, 10, mX9_basisCorner)), ((20, 101), (1, 2, 11, mX10_basisCorner)), ((20, 102), (1, 4, 10, mX9_basisCoefficient)), ((20, 105), (1, 4, 11, mX10_basisCoefficient)), ((20, 106), (1, 1, 10, mX9_changedCorners)), ((20, 109), (1, 1, 11, mX10_changedCorners)), ((20, 110), (1, 0, 10, mX9_universalSize)), ((20, 113), (1, 0, 11, mX10_universalSize)), ((20, 114), (1, 0, 10, mX9_universalDegree)), ((20, 117), (1, 0, 11, mX10_universalDegree)), ((20, 118), (1, 1, 10, mX9_mirroredCone)), ((20, 121), (1, 1, 11, mX10_mirroredCone)), ((20, 122), (1, 0, 10, mX9_flattestCone)), ((20, 125), (1, 0, 11, mX10_flattestCone)), ((20, 126), (1, 3, 10, mX9_setCoefficient)), ((20, 129), (1, 3, 11, mX10_setCoefficient)), ((20, 130), (1, 2, 10, mX9_coefficient)), ((20, 133), (1, 2, 11, mX10_coefficient)), ((20, 134), (1, 0, 10, mX9_termCount)), ((20, 137), (1, 0, 11, mX10_termCount)), ((20, 138), (1, 1, 10, mX9_evaluate))]
def zkmL6 : List ((Nat × Nat) × (Nat × Nat × Nat × zM)) := [((20, 141), (1, 1, 11, mX10_evaluate)), ((20, 142), (1, 0, 10, mX9_isVanishing)), ((20, 145), (1, 0, 11, mX10_isVanishing)), ((20, 146), (1, 1, 10, mX9_reduceToNormalForm)), ((20, 149), (1, 1, 11, mX10_reduceToNormalForm)), ((20, 150), (1, 2, 10, mX9_interpolate)), ((20, 153), (1, 2, 11, mX10_interpolate)), ((20, 154), (1, 2, 10, mX9_loadBasisPolynomial)), ((20, 157), (1, 2, 11, mX10_loadBasisPolynomial)), ((20, 158), (1, 1, 10, mX9_appendInput)), ((20, 161), (1, 1, 11, mX10_appendInput)), ((20, 162), (1, 0, 10, mX9_inputLength)), ((20, 165), (1, 0, 11, mX10_inputLength)), ((20, 166), (1, 0, 10, mX9_parsePoints)), ((20, 169), (1, 0, 11, mX10_parsePoints)), ((20, 170), (1, 2, 10, mX9_format)), ((20, 173), (1, 2, 11, mX10_format)), ((20, 174), (1, 1, 10, mX9_outputByte)), ((20, 177), (1, 1, 11, mX10_outputByte)), ((20, 178), (1, 2, 10, mX9_newArray)), ((20, 181), (1, 2, 11, mX10_newArray)), ((20, 182), (1, 3, 10, mX9_setElement)), ((20, 185), (1, 3, 11, mX10_setElement)), ((20, 186), (1, 2, 10, mX9_element)), ((20, 189), (1, 2, 11, mX10_element)), ((20, 190), (1, 1, 10, mX9_storePolynomial)), ((20, 193), (1, 1, 11, mX10_storePolynomial)), ((20, 194), (1, 1, 10, mX9_loadPolynomial)), ((20, 197), (1, 1, 11, mX10_loadPolynomial)), ((20, 198), (1, 1, 10, mX9_clearSlot)), ((20, 201), (1, 1, 11, mX10_clearSlot)), ((20, 202), (1, 2, 10, mX9_firstDifference)), ((20, 205), (1, 2, 11, mX10_firstDifference)), ((20, 206), (1, 0, 10, mX9_saveSnapshot)), ((20, 209), (1, 0, 11, mX10_saveSnapshot)), ((20, 210), (1, 0, 10, mX9_restoreSnapshot)), ((20, 213), (1, 0, 11, mX10_restoreSnapshot)), ((21, 1059), (0, 3, 0, mJ3_checkIndex_8e157)), ((25, 3), (6, 0, 0, mJmax)), ((25, 83), (4, 0, 0, mJ5_isLatin1_aae02))]
def zkmL7 : List ((Nat × Nat) × (Nat × Nat × Nat × zM)) := [((25, 100), (4, 1, 0, mJ5_ensureCapacityInternal_d00df)), ((25, 104), (4, 1, 0, mJ5_newCapacity_0f7a4)), ((25, 108), (0, 2, 0, mJ7_copyOf_9075b)), ((25, 114), (0, 3, 0, mJ8_newLength_cabcc)), ((25, 138), (0, 2, 0, mJmin)), ((25, 144), (0, 2, 0, mJ0_checkIndex_df160)), ((25, 191), (0, 1, 0, mJ1_canEncode_fc78d)), ((25, 245), (0, 1, 0, mJ6_stringSize_0f7a4)), ((25, 248), (0, 3, 0, mJ6_getChars_ba4f3)), ((27, 150), (7, 5, 0, mJmax)), ((27, 304), (0, 2, 0, mJmin)), ((28, 194), (0, 2, 0, mJmax))]
def zkmL : List ((Nat × Nat) × (Nat × Nat × Nat × zM)) := zkmL0 ++ (zkmL1 ++ (zkmL2 ++ (zkmL3 ++ (zkmL4 ++ (zkmL5 ++ (zkmL6 ++ (zkmL7)))))))
def zkm (c i : Nat) : Option (Nat × Nat × Nat × zM) := (zkmL.find? (fun r => r.1.1 == c && r.1.2 == i)).map (fun r => r.2)
theorem zkm_nd : (zkmL.map (fun r => r.1)).Nodup := by decide +kernel
theorem zkm_at {k c i : Nat} {v : Nat × Nat × Nat × zM} (h : zkmL[k]? = some ((c, i), v)) : zkm c i = some v := z_find zkm_nd h
theorem zkm_mem {c i : Nat} {v : Nat × Nat × Nat × zM} (h : zkm c i = some v) : ((c, i), v) ∈ zkmL := z_found h
theorem zkm_0_1 : zkm 0 1 = some (2, 1, 0, mJ5_init_d00df) := zkm_at (k := 0) rfl
theorem zkm_0_50 : zkm 0 50 = some (5, 1, 0, mJ5_append_3fe6f) := zkm_at (k := 1) rfl
theorem zkm_0_53 : zkm 0 53 = some (5, 1, 0, mJ5_append_c97b9) := zkm_at (k := 2) rfl
theorem zkm_0_329 : zkm 0 329 = some (5, 1, 0, mJ5_charAt_5068e) := zkm_at (k := 3) rfl
theorem zkm_0_333 : zkm 0 333 = some (5, 1, 0, mJ5_setLength_d00df) := zkm_at (k := 4) rfl
theorem zkm_0_343 : zkm 0 343 = some (5, 0, 0, mJ5_length_8abf5) := zkm_at (k := 5) rfl
theorem zkm_1_3 : zkm 1 3 = some (6, 0, 0, mJmax) := zkm_at (k := 6) rfl
theorem zkm_1_25 : zkm 1 25 = some (1, 2, 1, mX0_insertTerm) := zkm_at (k := 7) rfl
theorem zkm_1_45 : zkm 1 45 = some (0, 2, 0, mJmax) := zkm_at (k := 8) rfl
theorem zkm_2_3 : zkm 2 3 = some (6, 0, 0, mJmax) := zkm_at (k := 9) rfl
theorem zkm_2_40 : zkm 2 40 = some (1, 0, 2, mX1_restart) := zkm_at (k := 10) rfl
theorem zkm_2_48 : zkm 2 48 = some (1, 1, 2, mX1_keepIfIndependent) := zkm_at (k := 11) rfl
theorem zkm_2_55 : zkm 2 55 = some (1, 2, 6, mX5_monomialAt) := zkm_at (k := 12) rfl
theorem zkm_2_59 : zkm 2 59 = some (1, 0, 2, mX1_reduceValues) := zkm_at (k := 13) rfl
theorem zkm_2_62 : zkm 2 62 = some (1, 0, 2, mX1_firstNonzeroValue) := zkm_at (k := 14) rfl
theorem zkm_2_66 : zkm 2 66 = some (1, 2, 2, mX1_keepValues) := zkm_at (k := 15) rfl
theorem zkm_2_70 : zkm 2 70 = some (0, 2, 0, mJ7_fill_53178) := zkm_at (k := 16) rfl
theorem zkm_2_79 : zkm 2 79 = some (1, 3, 2, mX1_addMultiple) := zkm_at (k := 17) rfl
theorem zkm_2_83 : zkm 2 83 = some (1, 1, 6, mX5_inverse) := zkm_at (k := 18) rfl
theorem zkm_3_3 : zkm 3 3 = some (6, 0, 0, mJmax) := zkm_at (k := 19) rfl
theorem zkm_3_21 : zkm 3 21 = some (2, 0, 0, mX7_init) := zkm_at (k := 20) rfl
theorem zkm_3_22 : zkm 3 22 = some (1, 3, 5, mX4_choose) := zkm_at (k := 21) rfl
theorem zkm_3_28 : zkm 3 28 = some (1, 2, 8, mX7_compute) := zkm_at (k := 22) rfl
theorem zkm_3_32 : zkm 3 32 = some (1, 0, 8, mX7_hasWall) := zkm_at (k := 23) rfl
theorem zkm_3_42 : zkm 3 42 = some (1, 2, 8, mX7_hasAboveWall) := zkm_at (k := 24) rfl
theorem zkm_3_51 : zkm 3 51 = some (1, 2, 3, mX2_isBefore) := zkm_at (k := 25) rfl
theorem zkm_3_55 : zkm 3 55 = some (1, 1, 8, mX7_holdsTermsOf) := zkm_at (k := 26) rfl
theorem zkm_3_59 : zkm 3 59 = some (1, 0, 1, mX0_degree) := zkm_at (k := 27) rfl
theorem zkm_3_65 : zkm 3 65 = some (0, 2, 0, mJmax) := zkm_at (k := 28) rfl
theorem zkm_3_71 : zkm 3 71 = some (1, 1, 8, mX7_isMirrorOf) := zkm_at (k := 29) rfl
theorem zkm_3_75 : zkm 3 75 = some (1, 0, 8, mX7_standardDegree) := zkm_at (k := 30) rfl
theorem zkm_4_3 : zkm 4 3 = some (6, 0, 0, mJmax) := zkm_at (k := 31) rfl
theorem zkm_4_26 : zkm 4 26 = some (0, 1, 0, mX3_isDigit) := zkm_at (k := 32) rfl
theorem zkm_4_30 : zkm 4 30 = some (1, 0, 4, mX3_signBehindNumber) := zkm_at (k := 33) rfl
theorem zkm_4_34 : zkm 4 34 = some (1, 1, 4, mX3_appendNumber) := zkm_at (k := 34) rfl
theorem zkm_5_3 : zkm 5 3 = some (6, 0, 0, mJmax) := zkm_at (k := 35) rfl
theorem zkm_5_21 : zkm 5 21 = some (1, 1, 5, mX4_weightOf) := zkm_at (k := 36) rfl
theorem zkm_6_3 : zkm 6 3 = some (6, 0, 0, mJmax) := zkm_at (k := 37) rfl
theorem zkm_6_25 : zkm 6 25 = some (7, 5, 0, mJmax) := zkm_at (k := 38) rfl
theorem zkm_6_31 : zkm 6 31 = some (0, 2, 0, mJ9_floorMod_7cf53) := zkm_at (k := 39) rfl
theorem zkm_6_37 : zkm 6 37 = some (1, 2, 6, mX5_holds) := zkm_at (k := 40) rfl
theorem zkm_6_41 : zkm 6 41 = some (1, 2, 6, mX5_power) := zkm_at (k := 41) rfl
theorem zkm_7_3 : zkm 7 3 = some (6, 0, 0, mJmax) := zkm_at (k := 42) rfl
theorem zkm_7_15 : zkm 7 15 = some (0, 2, 0, mJ7_fill_53178) := zkm_at (k := 43) rfl
theorem zkm_7_21 : zkm 7 21 = some (7, 5, 0, mJmax) := zkm_at (k := 44) rfl
theorem zkm_8_3 : zkm 8 3 = some (6, 0, 0, mJmax) := zkm_at (k := 45) rfl
theorem zkm_8_31 : zkm 8 31 = some (3, 0, 0, mX0_init) := zkm_at (k := 46) rfl
theorem zkm_8_32 : zkm 8 32 = some (0, 2, 0, mJ7_fill_53178) := zkm_at (k := 47) rfl
theorem zkm_8_38 : zkm 8 38 = some (1, 0, 2, mX1_restart) := zkm_at (k := 48) rfl
theorem zkm_8_43 : zkm 8 43 = some (1, 1, 8, mX7_nextColumn) := zkm_at (k := 49) rfl
theorem zkm_8_47 : zkm 8 47 = some (1, 1, 8, mX7_topOf) := zkm_at (k := 50) rfl
theorem zkm_8_51 : zkm 8 51 = some (1, 1, 2, mX1_keepIfIndependent) := zkm_at (k := 51) rfl
theorem zkm_8_55 : zkm 8 55 = some (1, 2, 8, mX7_insertCorner) := zkm_at (k := 52) rfl
theorem zkm_8_59 : zkm 8 59 = some (1, 0, 8, mX7_findWall) := zkm_at (k := 53) rfl
theorem zkm_8_62 : zkm 8 62 = some (1, 1, 8, mX7_isClosed) := zkm_at (k := 54) rfl
theorem zkm_8_65 : zkm 8 65 = some (1, 2, 5, mX4_isSmaller) := zkm_at (k := 55) rfl
theorem zkm_8_74 : zkm 8 74 = some (1, 2, 1, mX0_take) := zkm_at (k := 56) rfl
theorem zkm_8_77 : zkm 8 77 = some (1, 1, 8, mX7_lowerWall) := zkm_at (k := 57) rfl
theorem zkm_8_85 : zkm 8 85 = some (1, 0, 8, mX7_hasWall) := zkm_at (k := 58) rfl
theorem zkm_8_89 : zkm 8 89 = some (1, 1, 8, mX7_hasCorner) := zkm_at (k := 59) rfl
theorem zkm_8_92 : zkm 8 92 = some (1, 1, 1, mX0_hasTermsOf) := zkm_at (k := 60) rfl
theorem zkm_8_96 : zkm 8 96 = some (1, 1, 8, mX7_rowLength) := zkm_at (k := 61) rfl
theorem zkm_8_99 : zkm 8 99 = some (0, 2, 0, mJmax) := zkm_at (k := 62) rfl
theorem zkm_9_3 : zkm 9 3 = some (6, 0, 0, mJmax) := zkm_at (k := 63) rfl
theorem zkm_9_22 : zkm 9 22 = some (0, 2, 0, mJ7_fill_53178) := zkm_at (k := 64) rfl
theorem zkm_9_33 : zkm 9 33 = some (7, 5, 0, mJmax) := zkm_at (k := 65) rfl
theorem zkm_10_3 : zkm 10 3 = some (6, 0, 0, mJmax) := zkm_at (k := 66) rfl
theorem zkm_10_11 : zkm 10 11 = some (3, 0, 0, mX5_init) := zkm_at (k := 67) rfl
theorem zkm_10_18 : zkm 10 18 = some (3, 0, 0, mX6_init) := zkm_at (k := 68) rfl
theorem zkm_10_35 : zkm 10 35 = some (2, 1, 0, mX1_init) := zkm_at (k := 69) rfl
theorem zkm_10_44 : zkm 10 44 = some (3, 0, 0, mX4_init) := zkm_at (k := 70) rfl
theorem zkm_10_51 : zkm 10 51 = some (2, 0, 0, mX7_init) := zkm_at (k := 71) rfl
theorem zkm_10_58 : zkm 10 58 = some (2, 0, 0, mX2_init) := zkm_at (k := 72) rfl
theorem zkm_10_65 : zkm 10 65 = some (3, 0, 0, mX3_init) := zkm_at (k := 73) rfl
theorem zkm_10_72 : zkm 10 72 = some (2, 0, 0, mJ4_init_da8c8) := zkm_at (k := 74) rfl
theorem zkm_10_83 : zkm 10 83 = some (3, 0, 0, mX8_init) := zkm_at (k := 75) rfl
theorem zkm_10_84 : zkm 10 84 = some (0, 1, 0, mX9_isAllowedPrime) := zkm_at (k := 76) rfl
theorem zkm_10_92 : zkm 10 92 = some (1, 1, 6, mX5_restart) := zkm_at (k := 77) rfl
theorem zkm_10_96 : zkm 10 96 = some (1, 0, 7, mX6_clear) := zkm_at (k := 78) rfl
theorem zkm_10_99 : zkm 10 99 = some (1, 0, 3, mX2_forget) := zkm_at (k := 79) rfl
theorem zkm_10_102 : zkm 10 102 = some (1, 1, 6, mX5_isResidue) := zkm_at (k := 80) rfl
theorem zkm_10_105 : zkm 10 105 = some (1, 2, 6, mX5_holds) := zkm_at (k := 81) rfl
theorem zkm_10_112 : zkm 10 112 = some (1, 2, 6, mX5_append) := zkm_at (k := 82) rfl
theorem zkm_10_116 : zkm 10 116 = some (1, 1, 6, mX5_hasIndex) := zkm_at (k := 83) rfl
theorem zkm_10_119 : zkm 10 119 = some (1, 1, 6, mX5_remove) := zkm_at (k := 84) rfl
theorem zkm_10_129 : zkm 10 129 = some (1, 0, 6, mX5_isSymmetric) := zkm_at (k := 85) rfl
theorem zkm_10_133 : zkm 10 133 = some (1, 0, 6, mX5_mirror) := zkm_at (k := 86) rfl
theorem zkm_10_136 : zkm 10 136 = some (1, 4, 6, mX5_transform) := zkm_at (k := 87) rfl
theorem zkm_10_140 : zkm 10 140 = some (0, 1, 0, mX9_isExponent) := zkm_at (k := 88) rfl
theorem zkm_10_143 : zkm 10 143 = some (0, 3, 0, mX9_isOrder) := zkm_at (k := 89) rfl
theorem zkm_10_147 : zkm 10 147 = some (1, 3, 10, mX9_computeOrder) := zkm_at (k := 90) rfl
theorem zkm_10_155 : zkm 10 155 = some (1, 1, 8, mX7_find) := zkm_at (k := 91) rfl
theorem zkm_10_164 : zkm 10 164 = some (0, 1, 0, mX9_decimalExponents) := zkm_at (k := 92) rfl
theorem zkm_10_168 : zkm 10 168 = some (1, 2, 3, mX2_refresh) := zkm_at (k := 93) rfl
theorem zkm_10_173 : zkm 10 173 = some (1, 1, 10, mX9_findCone) := zkm_at (k := 94) rfl
theorem zkm_10_177 : zkm 10 177 = some (1, 0, 8, mX7_hasWall) := zkm_at (k := 95) rfl
theorem zkm_10_186 : zkm 10 186 = some (0, 2, 0, mX9_isWeight) := zkm_at (k := 96) rfl
theorem zkm_10_189 : zkm 10 189 = some (1, 2, 3, mX2_firstWithin) := zkm_at (k := 97) rfl
theorem zkm_10_193 : zkm 10 193 = some (1, 1, 3, mX2_find) := zkm_at (k := 98) rfl
theorem zkm_10_195 : zkm 10 195 = some (1, 2, 8, mX7_hasOnWall) := zkm_at (k := 99) rfl
theorem zkm_10_198 : zkm 10 198 = some (1, 2, 10, mX9_findBasisPolynomial) := zkm_at (k := 100) rfl
theorem zkm_10_202 : zkm 10 202 = some (1, 1, 1, mX0_factorOf) := zkm_at (k := 101) rfl
theorem zkm_10_205 : zkm 10 205 = some (1, 1, 8, mX7_countCornersOutside) := zkm_at (k := 102) rfl
theorem zkm_10_209 : zkm 10 209 = some (1, 0, 3, mX2_countDistinctPolynomials) := zkm_at (k := 103) rfl
theorem zkm_10_213 : zkm 10 213 = some (1, 0, 3, mX2_greatestDegree) := zkm_at (k := 104) rfl
theorem zkm_10_216 : zkm 10 216 = some (1, 1, 3, mX2_firstMirrorOf) := zkm_at (k := 105) rfl
theorem zkm_10_219 : zkm 10 219 = some (1, 0, 3, mX2_firstFlattest) := zkm_at (k := 106) rfl
theorem zkm_10_225 : zkm 10 225 = some (1, 1, 6, mX5_residue) := zkm_at (k := 107) rfl
theorem zkm_10_228 : zkm 10 228 = some (1, 0, 7, mX6_countTerms) := zkm_at (k := 108) rfl
theorem zkm_10_231 : zkm 10 231 = some (1, 2, 7, mX6_valueAt) := zkm_at (k := 109) rfl
theorem zkm_10_235 : zkm 10 235 = some (1, 1, 2, mX1_keepStandardMonomials) := zkm_at (k := 110) rfl
theorem zkm_10_242 : zkm 10 242 = some (1, 0, 10, mX9_replaceByInterpolation) := zkm_at (k := 111) rfl
theorem zkm_10_245 : zkm 10 245 = some (1, 1, 10, mX9_findSlot) := zkm_at (k := 112) rfl
theorem zkm_10_252 : zkm 10 252 = some (1, 0, 9, mX8_errorForArrays) := zkm_at (k := 113) rfl
theorem zkm_10_267 : zkm 10 267 = some (1, 1, 4, mX3_append) := zkm_at (k := 114) rfl
theorem zkm_10_269 : zkm 10 269 = some (1, 0, 4, mX3_readNumbers) := zkm_at (k := 115) rfl
theorem zkm_10_276 : zkm 10 276 = some (1, 2, 10, mX9_addPoint) := zkm_at (k := 116) rfl
theorem zkm_10_279 : zkm 10 279 = some (1, 1, 0, mJ4_setLength_d00df) := zkm_at (k := 117) rfl
theorem zkm_10_282 : zkm 10 282 = some (1, 2, 10, mX9_writeTerm) := zkm_at (k := 118) rfl
theorem zkm_10_285 : zkm 10 285 = some (1, 1, 0, mJ4_append_cf468) := zkm_at (k := 119) rfl
theorem zkm_10_288 : zkm 10 288 = some (1, 0, 0, mJ4_length_8abf5) := zkm_at (k := 120) rfl
theorem zkm_10_290 : zkm 10 290 = some (1, 1, 0, mJ4_charAt_5068e) := zkm_at (k := 121) rfl
theorem zkm_10_294 : zkm 10 294 = some (1, 1, 9, mX8_holdZeros) := zkm_at (k := 122) rfl
theorem zkm_10_297 : zkm 10 297 = some (1, 1, 9, mX8_holdPolynomial) := zkm_at (k := 123) rfl
theorem zkm_10_301 : zkm 10 301 = some (1, 1, 6, mX5_copyFrom) := zkm_at (k := 124) rfl
theorem zkm_10_304 : zkm 10 304 = some (1, 1, 7, mX6_copyFrom) := zkm_at (k := 125) rfl
theorem zkm_10_309 : zkm 10 309 = some (1, 3, 5, mX4_choose) := zkm_at (k := 126) rfl
theorem zkm_10_312 : zkm 10 312 = some (1, 2, 8, mX7_compute) := zkm_at (k := 127) rfl
theorem zkm_10_315 : zkm 10 315 = some (1, 0, 2, mX1_reduceValues) := zkm_at (k := 128) rfl
theorem zkm_10_323 : zkm 10 323 = some (1, 1, 0, mJ4_append_bf812) := zkm_at (k := 129) rfl
theorem zkm_11_1 : zkm 11 1 = some (6, 0, 0, mJmax) := zkm_at (k := 130) rfl
theorem zkm_11_114 : zkm 11 114 = some (0, 3, 0, mX10_isIn) := zkm_at (k := 131) rfl
theorem zkm_11_118 : zkm 11 118 = some (0, 1, 0, mX10_isPrime) := zkm_at (k := 132) rfl
theorem zkm_11_126 : zkm 11 126 = some (1, 0, 11, mX10_clearCurrent) := zkm_at (k := 133) rfl
theorem zkm_11_129 : zkm 11 129 = some (1, 1, 11, mX10_isPoint) := zkm_at (k := 134) rfl
theorem zkm_11_132 : zkm 11 132 = some (0, 5, 0, mX10_isGreater) := zkm_at (k := 135) rfl
theorem zkm_11_136 : zkm 11 136 = some (1, 2, 11, mX10_power) := zkm_at (k := 136) rfl
theorem zkm_11_143 : zkm 11 143 = some (0, 2, 0, mJ9_floorMod_7cf53) := zkm_at (k := 137) rfl
theorem zkm_11_148 : zkm 11 148 = some (1, 1, 11, mX10_inverse) := zkm_at (k := 138) rfl
theorem zkm_11_155 : zkm 11 155 = some (1, 3, 11, mX10_sort) := zkm_at (k := 139) rfl
theorem zkm_11_159 : zkm 11 159 = some (1, 1, 11, mX10_reduce) := zkm_at (k := 140) rfl
theorem zkm_11_162 : zkm 11 162 = some (1, 2, 11, mX10_becomesStandard) := zkm_at (k := 141) rfl
theorem zkm_11_166 : zkm 11 166 = some (1, 1, 11, mX10_isCorner) := zkm_at (k := 142) rfl
theorem zkm_11_169 : zkm 11 169 = some (1, 1, 11, mX10_becomesCorner) := zkm_at (k := 143) rfl
theorem zkm_11_173 : zkm 11 173 = some (1, 0, 11, mX10_sortCorners) := zkm_at (k := 144) rfl
theorem zkm_11_176 : zkm 11 176 = some (0, 1, 0, mX10_isExponent) := zkm_at (k := 145) rfl
theorem zkm_11_179 : zkm 11 179 = some (0, 2, 0, mX10_isWeight) := zkm_at (k := 146) rfl
theorem zkm_11_183 : zkm 11 183 = some (1, 3, 11, mX10_compute) := zkm_at (k := 147) rfl
theorem zkm_11_186 : zkm 11 186 = some (0, 1, 0, mX10_exponents) := zkm_at (k := 148) rfl
theorem zkm_11_189 : zkm 11 189 = some (0, 2, 0, mX10_divisor) := zkm_at (k := 149) rfl
theorem zkm_11_192 : zkm 11 192 = some (1, 1, 11, mX10_wall) := zkm_at (k := 150) rfl
theorem zkm_11_198 : zkm 11 198 = some (1, 1, 11, mX10_keep) := zkm_at (k := 151) rfl
theorem zkm_11_201 : zkm 11 201 = some (1, 0, 11, mX10_fan) := zkm_at (k := 152) rfl
theorem zkm_11_204 : zkm 11 204 = some (1, 1, 11, mX10_isCone) := zkm_at (k := 153) rfl
theorem zkm_11_207 : zkm 11 207 = some (1, 3, 11, mX10_contains) := zkm_at (k := 154) rfl
theorem zkm_11_210 : zkm 11 210 = some (1, 2, 11, mX10_isBasis) := zkm_at (k := 155) rfl
theorem zkm_11_213 : zkm 11 213 = some (1, 3, 11, mX10_cell) := zkm_at (k := 156) rfl
theorem zkm_11_217 : zkm 11 217 = some (1, 4, 11, mX10_isSame) := zkm_at (k := 157) rfl
theorem zkm_11_221 : zkm 11 221 = some (1, 2, 11, mX10_isNew) := zkm_at (k := 158) rfl
theorem zkm_11_224 : zkm 11 224 = some (0, 2, 0, mJmax) := zkm_at (k := 159) rfl
theorem zkm_11_227 : zkm 11 227 = some (1, 2, 11, mX10_isMirrored) := zkm_at (k := 160) rfl
theorem zkm_11_230 : zkm 11 230 = some (1, 1, 11, mX10_steepness) := zkm_at (k := 161) rfl
theorem zkm_11_233 : zkm 11 233 = some (1, 1, 11, mX10_valueAt) := zkm_at (k := 162) rfl
theorem zkm_11_236 : zkm 11 236 = some (1, 1, 11, mX10_setUp) := zkm_at (k := 163) rfl
theorem zkm_11_239 : zkm 11 239 = some (1, 2, 11, mX10_exchange) := zkm_at (k := 164) rfl
theorem zkm_11_242 : zkm 11 242 = some (1, 0, 11, mX10_termCount) := zkm_at (k := 165) rfl
theorem zkm_11_246 : zkm 11 246 = some (1, 1, 11, mX10_solve) := zkm_at (k := 166) rfl
theorem zkm_11_249 : zkm 11 249 = some (0, 1, 0, mX10_isSlot) := zkm_at (k := 167) rfl
theorem zkm_11_261 : zkm 11 261 = some (1, 2, 11, mX10_isAt) := zkm_at (k := 168) rfl
theorem zkm_11_267 : zkm 11 267 = some (1, 0, 11, mX10_takesNumber) := zkm_at (k := 169) rfl
theorem zkm_11_271 : zkm 11 271 = some (1, 2, 11, mX10_addPoint) := zkm_at (k := 170) rfl
theorem zkm_11_274 : zkm 11 274 = some (1, 1, 11, mX10_takesPoint) := zkm_at (k := 171) rfl
theorem zkm_11_278 : zkm 11 278 = some (1, 1, 11, mX10_takesList) := zkm_at (k := 172) rfl
theorem zkm_11_284 : zkm 11 284 = some (1, 1, 11, mX10_write) := zkm_at (k := 173) rfl
theorem zkm_11_287 : zkm 11 287 = some (1, 2, 11, mX10_writeTerm) := zkm_at (k := 174) rfl
theorem zkm_11_290 : zkm 11 290 = some (1, 2, 11, mX10_element) := zkm_at (k := 175) rfl
theorem zkm_11_293 : zkm 11 293 = some (1, 2, 11, mX10_amiss) := zkm_at (k := 176) rfl
theorem zkm_20_9 : zkm 20 9 = some (2, 0, 0, mX9_init) := zkm_at (k := 177) rfl
theorem zkm_20_12 : zkm 20 12 = some (2, 0, 0, mX10_init) := zkm_at (k := 178) rfl
theorem zkm_20_13 : zkm 20 13 = some (1, 1, 10, mX9_setPrime) := zkm_at (k := 179) rfl
theorem zkm_20_17 : zkm 20 17 = some (1, 1, 11, mX10_setPrime) := zkm_at (k := 180) rfl
theorem zkm_20_18 : zkm 20 18 = some (1, 0, 10, mX9_prime) := zkm_at (k := 181) rfl
theorem zkm_20_22 : zkm 20 22 = some (1, 0, 11, mX10_prime) := zkm_at (k := 182) rfl
theorem zkm_20_23 : zkm 20 23 = some (1, 2, 10, mX9_addPoint) := zkm_at (k := 183) rfl
theorem zkm_20_27 : zkm 20 27 = some (1, 2, 11, mX10_addPoint) := zkm_at (k := 184) rfl
theorem zkm_20_28 : zkm 20 28 = some (1, 1, 10, mX9_removePoint) := zkm_at (k := 185) rfl
theorem zkm_20_31 : zkm 20 31 = some (1, 1, 11, mX10_removePoint) := zkm_at (k := 186) rfl
theorem zkm_20_32 : zkm 20 32 = some (1, 0, 10, mX9_pointCount) := zkm_at (k := 187) rfl
theorem zkm_20_35 : zkm 20 35 = some (1, 0, 11, mX10_pointCount) := zkm_at (k := 188) rfl
theorem zkm_20_36 : zkm 20 36 = some (1, 1, 10, mX9_pointX) := zkm_at (k := 189) rfl
theorem zkm_20_39 : zkm 20 39 = some (1, 1, 11, mX10_pointX) := zkm_at (k := 190) rfl
theorem zkm_20_40 : zkm 20 40 = some (1, 1, 10, mX9_pointY) := zkm_at (k := 191) rfl
theorem zkm_20_43 : zkm 20 43 = some (1, 1, 11, mX10_pointY) := zkm_at (k := 192) rfl
theorem zkm_20_44 : zkm 20 44 = some (1, 0, 10, mX9_swapCoordinates) := zkm_at (k := 193) rfl
theorem zkm_20_47 : zkm 20 47 = some (1, 0, 11, mX10_swapCoordinates) := zkm_at (k := 194) rfl
theorem zkm_20_48 : zkm 20 48 = some (1, 2, 10, mX9_translate) := zkm_at (k := 195) rfl
theorem zkm_20_51 : zkm 20 51 = some (1, 2, 11, mX10_translate) := zkm_at (k := 196) rfl
theorem zkm_20_52 : zkm 20 52 = some (1, 2, 10, mX9_scale) := zkm_at (k := 197) rfl
theorem zkm_20_55 : zkm 20 55 = some (1, 2, 11, mX10_scale) := zkm_at (k := 198) rfl
theorem zkm_20_56 : zkm 20 56 = some (1, 4, 10, mX9_columnHeight) := zkm_at (k := 199) rfl
theorem zkm_20_60 : zkm 20 60 = some (1, 4, 11, mX10_columnHeight) := zkm_at (k := 200) rfl
theorem zkm_20_61 : zkm 20 61 = some (1, 3, 10, mX9_cornerCount) := zkm_at (k := 201) rfl
theorem zkm_20_65 : zkm 20 65 = some (1, 3, 11, mX10_cornerCount) := zkm_at (k := 202) rfl
theorem zkm_20_66 : zkm 20 66 = some (1, 4, 10, mX9_corner) := zkm_at (k := 203) rfl
theorem zkm_20_69 : zkm 20 69 = some (1, 4, 11, mX10_corner) := zkm_at (k := 204) rfl
theorem zkm_20_70 : zkm 20 70 = some (1, 0, 10, mX9_coneCount) := zkm_at (k := 205) rfl
theorem zkm_20_73 : zkm 20 73 = some (1, 0, 11, mX10_coneCount) := zkm_at (k := 206) rfl
theorem zkm_20_74 : zkm 20 74 = some (1, 1, 10, mX9_wallNumerator) := zkm_at (k := 207) rfl
theorem zkm_20_77 : zkm 20 77 = some (1, 1, 11, mX10_wallNumerator) := zkm_at (k := 208) rfl
theorem zkm_20_78 : zkm 20 78 = some (1, 1, 10, mX9_wallDenominator) := zkm_at (k := 209) rfl
theorem zkm_20_81 : zkm 20 81 = some (1, 1, 11, mX10_wallDenominator) := zkm_at (k := 210) rfl
theorem zkm_20_82 : zkm 20 82 = some (1, 2, 10, mX9_firstConeContaining) := zkm_at (k := 211) rfl
theorem zkm_20_85 : zkm 20 85 = some (1, 2, 11, mX10_firstConeContaining) := zkm_at (k := 212) rfl
theorem zkm_20_86 : zkm 20 86 = some (1, 2, 10, mX9_conesContaining) := zkm_at (k := 213) rfl
theorem zkm_20_89 : zkm 20 89 = some (1, 2, 11, mX10_conesContaining) := zkm_at (k := 214) rfl
theorem zkm_20_90 : zkm 20 90 = some (1, 2, 10, mX9_coneHeight) := zkm_at (k := 215) rfl
theorem zkm_20_93 : zkm 20 93 = some (1, 2, 11, mX10_coneHeight) := zkm_at (k := 216) rfl
theorem zkm_20_94 : zkm 20 94 = some (1, 1, 10, mX9_basisSize) := zkm_at (k := 217) rfl
theorem zkm_20_97 : zkm 20 97 = some (1, 1, 11, mX10_basisSize) := zkm_at (k := 218) rfl
theorem zkm_20_98 : zkm 20 98 = some (1, 2, 10, mX9_basisCorner) := zkm_at (k := 219) rfl
theorem zkm_20_101 : zkm 20 101 = some (1, 2, 11, mX10_basisCorner) := zkm_at (k := 220) rfl
theorem zkm_20_102 : zkm 20 102 = some (1, 4, 10, mX9_basisCoefficient) := zkm_at (k := 221) rfl
theorem zkm_20_105 : zkm 20 105 = some (1, 4, 11, mX10_basisCoefficient) := zkm_at (k := 222) rfl
theorem zkm_20_106 : zkm 20 106 = some (1, 1, 10, mX9_changedCorners) := zkm_at (k := 223) rfl
theorem zkm_20_109 : zkm 20 109 = some (1, 1, 11, mX10_changedCorners) := zkm_at (k := 224) rfl
theorem zkm_20_110 : zkm 20 110 = some (1, 0, 10, mX9_universalSize) := zkm_at (k := 225) rfl
theorem zkm_20_113 : zkm 20 113 = some (1, 0, 11, mX10_universalSize) := zkm_at (k := 226) rfl
theorem zkm_20_114 : zkm 20 114 = some (1, 0, 10, mX9_universalDegree) := zkm_at (k := 227) rfl
theorem zkm_20_117 : zkm 20 117 = some (1, 0, 11, mX10_universalDegree) := zkm_at (k := 228) rfl
theorem zkm_20_118 : zkm 20 118 = some (1, 1, 10, mX9_mirroredCone) := zkm_at (k := 229) rfl
theorem zkm_20_121 : zkm 20 121 = some (1, 1, 11, mX10_mirroredCone) := zkm_at (k := 230) rfl
theorem zkm_20_122 : zkm 20 122 = some (1, 0, 10, mX9_flattestCone) := zkm_at (k := 231) rfl
theorem zkm_20_125 : zkm 20 125 = some (1, 0, 11, mX10_flattestCone) := zkm_at (k := 232) rfl
theorem zkm_20_126 : zkm 20 126 = some (1, 3, 10, mX9_setCoefficient) := zkm_at (k := 233) rfl
theorem zkm_20_129 : zkm 20 129 = some (1, 3, 11, mX10_setCoefficient) := zkm_at (k := 234) rfl
theorem zkm_20_130 : zkm 20 130 = some (1, 2, 10, mX9_coefficient) := zkm_at (k := 235) rfl
theorem zkm_20_133 : zkm 20 133 = some (1, 2, 11, mX10_coefficient) := zkm_at (k := 236) rfl
theorem zkm_20_134 : zkm 20 134 = some (1, 0, 10, mX9_termCount) := zkm_at (k := 237) rfl
theorem zkm_20_137 : zkm 20 137 = some (1, 0, 11, mX10_termCount) := zkm_at (k := 238) rfl
theorem zkm_20_138 : zkm 20 138 = some (1, 1, 10, mX9_evaluate) := zkm_at (k := 239) rfl
theorem zkm_20_141 : zkm 20 141 = some (1, 1, 11, mX10_evaluate) := zkm_at (k := 240) rfl
theorem zkm_20_142 : zkm 20 142 = some (1, 0, 10, mX9_isVanishing) := zkm_at (k := 241) rfl
theorem zkm_20_145 : zkm 20 145 = some (1, 0, 11, mX10_isVanishing) := zkm_at (k := 242) rfl
theorem zkm_20_146 : zkm 20 146 = some (1, 1, 10, mX9_reduceToNormalForm) := zkm_at (k := 243) rfl
theorem zkm_20_149 : zkm 20 149 = some (1, 1, 11, mX10_reduceToNormalForm) := zkm_at (k := 244) rfl
theorem zkm_20_150 : zkm 20 150 = some (1, 2, 10, mX9_interpolate) := zkm_at (k := 245) rfl
theorem zkm_20_153 : zkm 20 153 = some (1, 2, 11, mX10_interpolate) := zkm_at (k := 246) rfl
theorem zkm_20_154 : zkm 20 154 = some (1, 2, 10, mX9_loadBasisPolynomial) := zkm_at (k := 247) rfl
theorem zkm_20_157 : zkm 20 157 = some (1, 2, 11, mX10_loadBasisPolynomial) := zkm_at (k := 248) rfl
theorem zkm_20_158 : zkm 20 158 = some (1, 1, 10, mX9_appendInput) := zkm_at (k := 249) rfl
theorem zkm_20_161 : zkm 20 161 = some (1, 1, 11, mX10_appendInput) := zkm_at (k := 250) rfl
theorem zkm_20_162 : zkm 20 162 = some (1, 0, 10, mX9_inputLength) := zkm_at (k := 251) rfl
theorem zkm_20_165 : zkm 20 165 = some (1, 0, 11, mX10_inputLength) := zkm_at (k := 252) rfl
theorem zkm_20_166 : zkm 20 166 = some (1, 0, 10, mX9_parsePoints) := zkm_at (k := 253) rfl
theorem zkm_20_169 : zkm 20 169 = some (1, 0, 11, mX10_parsePoints) := zkm_at (k := 254) rfl
theorem zkm_20_170 : zkm 20 170 = some (1, 2, 10, mX9_format) := zkm_at (k := 255) rfl
theorem zkm_20_173 : zkm 20 173 = some (1, 2, 11, mX10_format) := zkm_at (k := 256) rfl
theorem zkm_20_174 : zkm 20 174 = some (1, 1, 10, mX9_outputByte) := zkm_at (k := 257) rfl
theorem zkm_20_177 : zkm 20 177 = some (1, 1, 11, mX10_outputByte) := zkm_at (k := 258) rfl
theorem zkm_20_178 : zkm 20 178 = some (1, 2, 10, mX9_newArray) := zkm_at (k := 259) rfl
theorem zkm_20_181 : zkm 20 181 = some (1, 2, 11, mX10_newArray) := zkm_at (k := 260) rfl
theorem zkm_20_182 : zkm 20 182 = some (1, 3, 10, mX9_setElement) := zkm_at (k := 261) rfl
theorem zkm_20_185 : zkm 20 185 = some (1, 3, 11, mX10_setElement) := zkm_at (k := 262) rfl
theorem zkm_20_186 : zkm 20 186 = some (1, 2, 10, mX9_element) := zkm_at (k := 263) rfl
theorem zkm_20_189 : zkm 20 189 = some (1, 2, 11, mX10_element) := zkm_at (k := 264) rfl
theorem zkm_20_190 : zkm 20 190 = some (1, 1, 10, mX9_storePolynomial) := zkm_at (k := 265) rfl
theorem zkm_20_193 : zkm 20 193 = some (1, 1, 11, mX10_storePolynomial) := zkm_at (k := 266) rfl
theorem zkm_20_194 : zkm 20 194 = some (1, 1, 10, mX9_loadPolynomial) := zkm_at (k := 267) rfl
theorem zkm_20_197 : zkm 20 197 = some (1, 1, 11, mX10_loadPolynomial) := zkm_at (k := 268) rfl
theorem zkm_20_198 : zkm 20 198 = some (1, 1, 10, mX9_clearSlot) := zkm_at (k := 269) rfl
theorem zkm_20_201 : zkm 20 201 = some (1, 1, 11, mX10_clearSlot) := zkm_at (k := 270) rfl
theorem zkm_20_202 : zkm 20 202 = some (1, 2, 10, mX9_firstDifference) := zkm_at (k := 271) rfl
theorem zkm_20_205 : zkm 20 205 = some (1, 2, 11, mX10_firstDifference) := zkm_at (k := 272) rfl
theorem zkm_20_206 : zkm 20 206 = some (1, 0, 10, mX9_saveSnapshot) := zkm_at (k := 273) rfl
theorem zkm_20_209 : zkm 20 209 = some (1, 0, 11, mX10_saveSnapshot) := zkm_at (k := 274) rfl
theorem zkm_20_210 : zkm 20 210 = some (1, 0, 10, mX9_restoreSnapshot) := zkm_at (k := 275) rfl
theorem zkm_20_213 : zkm 20 213 = some (1, 0, 11, mX10_restoreSnapshot) := zkm_at (k := 276) rfl
theorem zkm_21_1059 : zkm 21 1059 = some (0, 3, 0, mJ3_checkIndex_8e157) := zkm_at (k := 277) rfl
theorem zkm_25_3 : zkm 25 3 = some (6, 0, 0, mJmax) := zkm_at (k := 278) rfl
theorem zkm_25_83 : zkm 25 83 = some (4, 0, 0, mJ5_isLatin1_aae02) := zkm_at (k := 279) rfl
theorem zkm_25_100 : zkm 25 100 = some (4, 1, 0, mJ5_ensureCapacityInternal_d00df) := zkm_at (k := 280) rfl
theorem zkm_25_104 : zkm 25 104 = some (4, 1, 0, mJ5_newCapacity_0f7a4) := zkm_at (k := 281) rfl
theorem zkm_25_108 : zkm 25 108 = some (0, 2, 0, mJ7_copyOf_9075b) := zkm_at (k := 282) rfl
theorem zkm_25_114 : zkm 25 114 = some (0, 3, 0, mJ8_newLength_cabcc) := zkm_at (k := 283) rfl
theorem zkm_25_138 : zkm 25 138 = some (0, 2, 0, mJmin) := zkm_at (k := 284) rfl
theorem zkm_25_144 : zkm 25 144 = some (0, 2, 0, mJ0_checkIndex_df160) := zkm_at (k := 285) rfl
theorem zkm_25_191 : zkm 25 191 = some (0, 1, 0, mJ1_canEncode_fc78d) := zkm_at (k := 286) rfl
theorem zkm_25_245 : zkm 25 245 = some (0, 1, 0, mJ6_stringSize_0f7a4) := zkm_at (k := 287) rfl
theorem zkm_25_248 : zkm 25 248 = some (0, 3, 0, mJ6_getChars_ba4f3) := zkm_at (k := 288) rfl
theorem zkm_27_150 : zkm 27 150 = some (7, 5, 0, mJmax) := zkm_at (k := 289) rfl
theorem zkm_27_304 : zkm 27 304 = some (0, 2, 0, mJmin) := zkm_at (k := 290) rfl
theorem zkm_28_194 : zkm 28 194 = some (0, 2, 0, mJmax) := zkm_at (k := 291) rfl
def zkfL : List ((Nat × Nat) × (Nat × Nat)) := [((1, 9), (1, 0)), ((1, 15), (1, 1)), ((1, 18), (1, 2)), ((1, 22), (1, 3)), ((1, 29), (2, 4)), ((1, 32), (2, 7)), ((1, 35), (2, 5)), ((1, 36), (2, 0)), ((1, 40), (6, 0)), ((2, 11), (2, 1)), ((2, 16), (2, 2)), ((2, 19), (2, 3)), ((2, 23), (2, 4)), ((2, 27), (2, 5)), ((2, 30), (2, 6)), ((2, 33), (2, 7)), ((2, 36), (2, 0)), ((2, 43), (8, 0)), ((2, 52), (6, 1)), ((2, 76), (6, 0)), ((3, 9), (3, 0)), ((3, 17), (3, 1)), ((3, 36), (8, 4)), ((3, 39), (8, 3)), ((3, 46), (8, 1)), ((3, 47), (8, 2)), ((4, 9), (4, 0)), ((4, 15), (4, 1)), ((4, 19), (4, 2)), ((4, 22), (4, 3)), ((5, 9), (5, 0)), ((5, 15), (5, 1)), ((5, 18), (5, 2)), ((6, 9), (6, 0)), ((6, 15), (6, 1)), ((6, 18), (6, 2)), ((6, 22), (6, 3)), ((7, 9), (7, 0)), ((7, 27), (6, 3)), ((7, 32), (6, 0)), ((7, 36), (6, 2)), ((8, 9), (8, 0)), ((8, 15), (8, 1)), ((8, 21), (8, 2)), ((8, 25), (8, 3)), ((8, 28), (8, 4)), ((8, 71), (1, 0)), ((8, 81), (1, 1)), ((8, 82), (1, 2)), ((9, 11), (9, 0)), ((9, 15), (9, 1)), ((9, 18), (9, 2)), ((9, 28), (7, 0)), ((10, 12), (10, 0)), ((10, 19), (10, 1)), ((10, 23), (10, 2)), ((10, 26), (10, 3)), ((10, 29), (10, 4)), ((10, 38), (10, 5)), ((10, 45), (10, 6)), ((10, 52), (10, 7)), ((10, 59), (10, 8)), ((10, 66), (10, 9)), ((10, 73), (10, 10)), ((10, 79), (10, 11)), ((10, 88), (6, 0)), ((10, 109), (6, 1)), ((10, 122), (6, 2)), ((10, 126), (6, 3)), ((10, 151), (8, 0)), ((10, 154), (8, 1)), ((10, 159), (1, 0)), ((10, 172), (3, 0)), ((10, 180), (8, 3)), ((10, 183), (8, 4)), ((10, 222), (7, 0)), ((10, 239), (2, 6)), ((10, 249), (9, 0)), ((10, 255), (9, 1)), ((10, 258), (9, 2)), ((10, 261), (1, 1)), ((10, 262), (1, 2)), ((10, 265), (1, 3)), ((10, 266), (4, 0)), ((10, 272), (4, 2)), ((10, 275), (4, 3)), ((10, 318), (2, 4)), ((10, 319), (2, 5)), ((10, 320), (2, 7)), ((11, 7), (11, 0)), ((11, 13), (11, 2)), ((11, 17), (11, 3)), ((11, 20), (11, 4)), ((11, 23), (11, 6)), ((11, 26), (11, 7)), ((11, 30), (11, 9)), ((11, 33), (11, 10)), ((11, 36), (11, 11)), ((11, 39), (11, 12)), ((11, 42), (11, 13)), ((11, 45), (11, 14)), ((11, 48), (11, 15)), ((11, 51), (11, 17)), ((11, 54), (11, 18)), ((11, 57), (11, 20)), ((11, 60), (11, 21)), ((11, 63), (11, 22)), ((11, 66), (11, 23)), ((11, 69), (11, 24)), ((11, 72), (11, 25)), ((11, 75), (11, 26)), ((11, 78), (11, 27)), ((11, 81), (11, 28)), ((11, 84), (11, 29)), ((11, 87), (11, 34)), ((11, 90), (11, 36)), ((11, 93), (11, 37)), ((11, 96), (11, 38)), ((11, 99), (11, 39)), ((11, 102), (11, 43)), ((11, 105), (11, 44)), ((11, 108), (11, 45)), ((11, 111), (11, 1)), ((11, 122), (11, 5)), ((11, 140), (11, 8)), ((11, 152), (11, 16)), ((11, 195), (11, 19)), ((11, 252), (11, 30)), ((11, 255), (11, 32)), ((11, 258), (11, 31)), ((11, 264), (11, 33)), ((11, 281), (11, 35)), ((11, 296), (11, 40)), ((11, 299), (11, 41)), ((11, 302), (11, 42)), ((25, 15), (0, 0)), ((25, 22), (0, 1)), ((25, 73), (0, 2)), ((25, 79), (0, 3))]
def zkf (c i : Nat) : Option (Nat × Nat) := (zkfL.find? (fun r => r.1.1 == c && r.1.2 == i)).map (fun r => r.2)
theorem zkf_nd : (zkfL.map (fun r => r.1)).Nodup := by decide +kernel
theorem zkf_at {k c i : Nat} {v : Nat × Nat} (h : zkfL[k]? = some ((c, i), v)) : zkf c i = some v := z_find zkf_nd h
theorem zkf_mem {c i : Nat} {v : Nat × Nat} (h : zkf c i = some v) : ((c, i), v) ∈ zkfL := z_found h
theorem zkf_1_9 : zkf 1 9 = some (1, 0) := zkf_at (k := 0) rfl
theorem zkf_1_15 : zkf 1 15 = some (1, 1) := zkf_at (k := 1) rfl
theorem zkf_1_18 : zkf 1 18 = some (1, 2) := zkf_at (k := 2) rfl
theorem zkf_1_22 : zkf 1 22 = some (1, 3) := zkf_at (k := 3) rfl
theorem zkf_1_29 : zkf 1 29 = some (2, 4) := zkf_at (k := 4) rfl
theorem zkf_1_32 : zkf 1 32 = some (2, 7) := zkf_at (k := 5) rfl
theorem zkf_1_35 : zkf 1 35 = some (2, 5) := zkf_at (k := 6) rfl
theorem zkf_1_36 : zkf 1 36 = some (2, 0) := zkf_at (k := 7) rfl
theorem zkf_1_40 : zkf 1 40 = some (6, 0) := zkf_at (k := 8) rfl
theorem zkf_2_11 : zkf 2 11 = some (2, 1) := zkf_at (k := 9) rfl
theorem zkf_2_16 : zkf 2 16 = some (2, 2) := zkf_at (k := 10) rfl
theorem zkf_2_19 : zkf 2 19 = some (2, 3) := zkf_at (k := 11) rfl
theorem zkf_2_23 : zkf 2 23 = some (2, 4) := zkf_at (k := 12) rfl
theorem zkf_2_27 : zkf 2 27 = some (2, 5) := zkf_at (k := 13) rfl
theorem zkf_2_30 : zkf 2 30 = some (2, 6) := zkf_at (k := 14) rfl
theorem zkf_2_33 : zkf 2 33 = some (2, 7) := zkf_at (k := 15) rfl
theorem zkf_2_36 : zkf 2 36 = some (2, 0) := zkf_at (k := 16) rfl
theorem zkf_2_43 : zkf 2 43 = some (8, 0) := zkf_at (k := 17) rfl
theorem zkf_2_52 : zkf 2 52 = some (6, 1) := zkf_at (k := 18) rfl
theorem zkf_2_76 : zkf 2 76 = some (6, 0) := zkf_at (k := 19) rfl
theorem zkf_3_9 : zkf 3 9 = some (3, 0) := zkf_at (k := 20) rfl
theorem zkf_3_17 : zkf 3 17 = some (3, 1) := zkf_at (k := 21) rfl
theorem zkf_3_36 : zkf 3 36 = some (8, 4) := zkf_at (k := 22) rfl
theorem zkf_3_39 : zkf 3 39 = some (8, 3) := zkf_at (k := 23) rfl
theorem zkf_3_46 : zkf 3 46 = some (8, 1) := zkf_at (k := 24) rfl
theorem zkf_3_47 : zkf 3 47 = some (8, 2) := zkf_at (k := 25) rfl
theorem zkf_4_9 : zkf 4 9 = some (4, 0) := zkf_at (k := 26) rfl
theorem zkf_4_15 : zkf 4 15 = some (4, 1) := zkf_at (k := 27) rfl
theorem zkf_4_19 : zkf 4 19 = some (4, 2) := zkf_at (k := 28) rfl
theorem zkf_4_22 : zkf 4 22 = some (4, 3) := zkf_at (k := 29) rfl
theorem zkf_5_9 : zkf 5 9 = some (5, 0) := zkf_at (k := 30) rfl
theorem zkf_5_15 : zkf 5 15 = some (5, 1) := zkf_at (k := 31) rfl
theorem zkf_5_18 : zkf 5 18 = some (5, 2) := zkf_at (k := 32) rfl
theorem zkf_6_9 : zkf 6 9 = some (6, 0) := zkf_at (k := 33) rfl
theorem zkf_6_15 : zkf 6 15 = some (6, 1) := zkf_at (k := 34) rfl
theorem zkf_6_18 : zkf 6 18 = some (6, 2) := zkf_at (k := 35) rfl
theorem zkf_6_22 : zkf 6 22 = some (6, 3) := zkf_at (k := 36) rfl
theorem zkf_7_9 : zkf 7 9 = some (7, 0) := zkf_at (k := 37) rfl
theorem zkf_7_27 : zkf 7 27 = some (6, 3) := zkf_at (k := 38) rfl
theorem zkf_7_32 : zkf 7 32 = some (6, 0) := zkf_at (k := 39) rfl
theorem zkf_7_36 : zkf 7 36 = some (6, 2) := zkf_at (k := 40) rfl
theorem zkf_8_9 : zkf 8 9 = some (8, 0) := zkf_at (k := 41) rfl
theorem zkf_8_15 : zkf 8 15 = some (8, 1) := zkf_at (k := 42) rfl
theorem zkf_8_21 : zkf 8 21 = some (8, 2) := zkf_at (k := 43) rfl
theorem zkf_8_25 : zkf 8 25 = some (8, 3) := zkf_at (k := 44) rfl
theorem zkf_8_28 : zkf 8 28 = some (8, 4) := zkf_at (k := 45) rfl
theorem zkf_8_71 : zkf 8 71 = some (1, 0) := zkf_at (k := 46) rfl
theorem zkf_8_81 : zkf 8 81 = some (1, 1) := zkf_at (k := 47) rfl
theorem zkf_8_82 : zkf 8 82 = some (1, 2) := zkf_at (k := 48) rfl
theorem zkf_9_11 : zkf 9 11 = some (9, 0) := zkf_at (k := 49) rfl
theorem zkf_9_15 : zkf 9 15 = some (9, 1) := zkf_at (k := 50) rfl
theorem zkf_9_18 : zkf 9 18 = some (9, 2) := zkf_at (k := 51) rfl
theorem zkf_9_28 : zkf 9 28 = some (7, 0) := zkf_at (k := 52) rfl
theorem zkf_10_12 : zkf 10 12 = some (10, 0) := zkf_at (k := 53) rfl
theorem zkf_10_19 : zkf 10 19 = some (10, 1) := zkf_at (k := 54) rfl
theorem zkf_10_23 : zkf 10 23 = some (10, 2) := zkf_at (k := 55) rfl
theorem zkf_10_26 : zkf 10 26 = some (10, 3) := zkf_at (k := 56) rfl
theorem zkf_10_29 : zkf 10 29 = some (10, 4) := zkf_at (k := 57) rfl
theorem zkf_10_38 : zkf 10 38 = some (10, 5) := zkf_at (k := 58) rfl
theorem zkf_10_45 : zkf 10 45 = some (10, 6) := zkf_at (k := 59) rfl
theorem zkf_10_52 : zkf 10 52 = some (10, 7) := zkf_at (k := 60) rfl
theorem zkf_10_59 : zkf 10 59 = some (10, 8) := zkf_at (k := 61) rfl
theorem zkf_10_66 : zkf 10 66 = some (10, 9) := zkf_at (k := 62) rfl
theorem zkf_10_73 : zkf 10 73 = some (10, 10) := zkf_at (k := 63) rfl
theorem zkf_10_79 : zkf 10 79 = some (10, 11) := zkf_at (k := 64) rfl
theorem zkf_10_88 : zkf 10 88 = some (6, 0) := zkf_at (k := 65) rfl
theorem zkf_10_109 : zkf 10 109 = some (6, 1) := zkf_at (k := 66) rfl
theorem zkf_10_122 : zkf 10 122 = some (6, 2) := zkf_at (k := 67) rfl
theorem zkf_10_126 : zkf 10 126 = some (6, 3) := zkf_at (k := 68) rfl
theorem zkf_10_151 : zkf 10 151 = some (8, 0) := zkf_at (k := 69) rfl
theorem zkf_10_154 : zkf 10 154 = some (8, 1) := zkf_at (k := 70) rfl
theorem zkf_10_159 : zkf 10 159 = some (1, 0) := zkf_at (k := 71) rfl
theorem zkf_10_172 : zkf 10 172 = some (3, 0) := zkf_at (k := 72) rfl
theorem zkf_10_180 : zkf 10 180 = some (8, 3) := zkf_at (k := 73) rfl
theorem zkf_10_183 : zkf 10 183 = some (8, 4) := zkf_at (k := 74) rfl
theorem zkf_10_222 : zkf 10 222 = some (7, 0) := zkf_at (k := 75) rfl
theorem zkf_10_239 : zkf 10 239 = some (2, 6) := zkf_at (k := 76) rfl
theorem zkf_10_249 : zkf 10 249 = some (9, 0) := zkf_at (k := 77) rfl
theorem zkf_10_255 : zkf 10 255 = some (9, 1) := zkf_at (k := 78) rfl
theorem zkf_10_258 : zkf 10 258 = some (9, 2) := zkf_at (k := 79) rfl
theorem zkf_10_261 : zkf 10 261 = some (1, 1) := zkf_at (k := 80) rfl
theorem zkf_10_262 : zkf 10 262 = some (1, 2) := zkf_at (k := 81) rfl
theorem zkf_10_265 : zkf 10 265 = some (1, 3) := zkf_at (k := 82) rfl
theorem zkf_10_266 : zkf 10 266 = some (4, 0) := zkf_at (k := 83) rfl
theorem zkf_10_272 : zkf 10 272 = some (4, 2) := zkf_at (k := 84) rfl
theorem zkf_10_275 : zkf 10 275 = some (4, 3) := zkf_at (k := 85) rfl
theorem zkf_10_318 : zkf 10 318 = some (2, 4) := zkf_at (k := 86) rfl
theorem zkf_10_319 : zkf 10 319 = some (2, 5) := zkf_at (k := 87) rfl
theorem zkf_10_320 : zkf 10 320 = some (2, 7) := zkf_at (k := 88) rfl
theorem zkf_11_7 : zkf 11 7 = some (11, 0) := zkf_at (k := 89) rfl
theorem zkf_11_13 : zkf 11 13 = some (11, 2) := zkf_at (k := 90) rfl
theorem zkf_11_17 : zkf 11 17 = some (11, 3) := zkf_at (k := 91) rfl
theorem zkf_11_20 : zkf 11 20 = some (11, 4) := zkf_at (k := 92) rfl
theorem zkf_11_23 : zkf 11 23 = some (11, 6) := zkf_at (k := 93) rfl
theorem zkf_11_26 : zkf 11 26 = some (11, 7) := zkf_at (k := 94) rfl
theorem zkf_11_30 : zkf 11 30 = some (11, 9) := zkf_at (k := 95) rfl
theorem zkf_11_33 : zkf 11 33 = some (11, 10) := zkf_at (k := 96) rfl
theorem zkf_11_36 : zkf 11 36 = some (11, 11) := zkf_at (k := 97) rfl
theorem zkf_11_39 : zkf 11 39 = some (11, 12) := zkf_at (k := 98) rfl
theorem zkf_11_42 : zkf 11 42 = some (11, 13) := zkf_at (k := 99) rfl
theorem zkf_11_45 : zkf 11 45 = some (11, 14) := zkf_at (k := 100) rfl
theorem zkf_11_48 : zkf 11 48 = some (11, 15) := zkf_at (k := 101) rfl
theorem zkf_11_51 : zkf 11 51 = some (11, 17) := zkf_at (k := 102) rfl
theorem zkf_11_54 : zkf 11 54 = some (11, 18) := zkf_at (k := 103) rfl
theorem zkf_11_57 : zkf 11 57 = some (11, 20) := zkf_at (k := 104) rfl
theorem zkf_11_60 : zkf 11 60 = some (11, 21) := zkf_at (k := 105) rfl
theorem zkf_11_63 : zkf 11 63 = some (11, 22) := zkf_at (k := 106) rfl
theorem zkf_11_66 : zkf 11 66 = some (11, 23) := zkf_at (k := 107) rfl
theorem zkf_11_69 : zkf 11 69 = some (11, 24) := zkf_at (k := 108) rfl
theorem zkf_11_72 : zkf 11 72 = some (11, 25) := zkf_at (k := 109) rfl
theorem zkf_11_75 : zkf 11 75 = some (11, 26) := zkf_at (k := 110) rfl
theorem zkf_11_78 : zkf 11 78 = some (11, 27) := zkf_at (k := 111) rfl
theorem zkf_11_81 : zkf 11 81 = some (11, 28) := zkf_at (k := 112) rfl
theorem zkf_11_84 : zkf 11 84 = some (11, 29) := zkf_at (k := 113) rfl
theorem zkf_11_87 : zkf 11 87 = some (11, 34) := zkf_at (k := 114) rfl
theorem zkf_11_90 : zkf 11 90 = some (11, 36) := zkf_at (k := 115) rfl
theorem zkf_11_93 : zkf 11 93 = some (11, 37) := zkf_at (k := 116) rfl
theorem zkf_11_96 : zkf 11 96 = some (11, 38) := zkf_at (k := 117) rfl
theorem zkf_11_99 : zkf 11 99 = some (11, 39) := zkf_at (k := 118) rfl
theorem zkf_11_102 : zkf 11 102 = some (11, 43) := zkf_at (k := 119) rfl
theorem zkf_11_105 : zkf 11 105 = some (11, 44) := zkf_at (k := 120) rfl
theorem zkf_11_108 : zkf 11 108 = some (11, 45) := zkf_at (k := 121) rfl
theorem zkf_11_111 : zkf 11 111 = some (11, 1) := zkf_at (k := 122) rfl
theorem zkf_11_122 : zkf 11 122 = some (11, 5) := zkf_at (k := 123) rfl
theorem zkf_11_140 : zkf 11 140 = some (11, 8) := zkf_at (k := 124) rfl
theorem zkf_11_152 : zkf 11 152 = some (11, 16) := zkf_at (k := 125) rfl
theorem zkf_11_195 : zkf 11 195 = some (11, 19) := zkf_at (k := 126) rfl
theorem zkf_11_252 : zkf 11 252 = some (11, 30) := zkf_at (k := 127) rfl
theorem zkf_11_255 : zkf 11 255 = some (11, 32) := zkf_at (k := 128) rfl
theorem zkf_11_258 : zkf 11 258 = some (11, 31) := zkf_at (k := 129) rfl
theorem zkf_11_264 : zkf 11 264 = some (11, 33) := zkf_at (k := 130) rfl
theorem zkf_11_281 : zkf 11 281 = some (11, 35) := zkf_at (k := 131) rfl
theorem zkf_11_296 : zkf 11 296 = some (11, 40) := zkf_at (k := 132) rfl
theorem zkf_11_299 : zkf 11 299 = some (11, 41) := zkf_at (k := 133) rfl
theorem zkf_11_302 : zkf 11 302 = some (11, 42) := zkf_at (k := 134) rfl
theorem zkf_25_15 : zkf 25 15 = some (0, 0) := zkf_at (k := 135) rfl
theorem zkf_25_22 : zkf 25 22 = some (0, 1) := zkf_at (k := 136) rfl
theorem zkf_25_73 : zkf 25 73 = some (0, 2) := zkf_at (k := 137) rfl
theorem zkf_25_79 : zkf 25 79 = some (0, 3) := zkf_at (k := 138) rfl
def zksL : List ((Nat × Nat) × (Nat)) := [((10, 306), 1), ((21, 1053), 4), ((25, 18), 0), ((26, 83), 2), ((26, 87), 3)]
def zks (c i : Nat) : Option (Nat) := (zksL.find? (fun r => r.1.1 == c && r.1.2 == i)).map (fun r => r.2)
theorem zks_nd : (zksL.map (fun r => r.1)).Nodup := by decide +kernel
theorem zks_at {k c i : Nat} {v : Nat} (h : zksL[k]? = some ((c, i), v)) : zks c i = some v := z_find zks_nd h
theorem zks_mem {c i : Nat} {v : Nat} (h : zks c i = some v) : ((c, i), v) ∈ zksL := z_found h
theorem zks_10_306 : zks 10 306 = some 1 := zks_at (k := 0) rfl
theorem zks_21_1053 : zks 21 1053 = some 4 := zks_at (k := 1) rfl
theorem zks_25_18 : zks 25 18 = some 0 := zks_at (k := 2) rfl
theorem zks_26_83 : zks 26 83 = some 2 := zks_at (k := 3) rfl
theorem zks_26_87 : zks 26 87 = some 3 := zks_at (k := 4) rfl
def zkkL : List ((Nat × Nat) × (Nat)) := [((2, 9), 99), ((3, 15), 8), ((8, 19), 1), ((10, 9), 6), ((10, 16), 7), ((10, 33), 2), ((10, 42), 5), ((10, 49), 8), ((10, 56), 3), ((10, 63), 4), ((10, 70), 0), ((10, 77), 9), ((20, 7), 10), ((20, 10), 11)]
def zkk (c i : Nat) : Option (Nat) := (zkkL.find? (fun r => r.1.1 == c && r.1.2 == i)).map (fun r => r.2)
theorem zkk_nd : (zkkL.map (fun r => r.1)).Nodup := by decide +kernel
theorem zkk_at {k c i : Nat} {v : Nat} (h : zkkL[k]? = some ((c, i), v)) : zkk c i = some v := z_find zkk_nd h
theorem zkk_mem {c i : Nat} {v : Nat} (h : zkk c i = some v) : ((c, i), v) ∈ zkkL := z_found h
theorem zkk_2_9 : zkk 2 9 = some 99 := zkk_at (k := 0) rfl
theorem zkk_3_15 : zkk 3 15 = some 8 := zkk_at (k := 1) rfl
theorem zkk_8_19 : zkk 8 19 = some 1 := zkk_at (k := 2) rfl
theorem zkk_10_9 : zkk 10 9 = some 6 := zkk_at (k := 3) rfl
theorem zkk_10_16 : zkk 10 16 = some 7 := zkk_at (k := 4) rfl
theorem zkk_10_33 : zkk 10 33 = some 2 := zkk_at (k := 5) rfl
theorem zkk_10_42 : zkk 10 42 = some 5 := zkk_at (k := 6) rfl
theorem zkk_10_49 : zkk 10 49 = some 8 := zkk_at (k := 7) rfl
theorem zkk_10_56 : zkk 10 56 = some 3 := zkk_at (k := 8) rfl
theorem zkk_10_63 : zkk 10 63 = some 4 := zkk_at (k := 9) rfl
theorem zkk_10_70 : zkk 10 70 = some 0 := zkk_at (k := 10) rfl
theorem zkk_10_77 : zkk 10 77 = some 9 := zkk_at (k := 11) rfl
theorem zkk_20_7 : zkk 20 7 = some 10 := zkk_at (k := 12) rfl
theorem zkk_20_10 : zkk 20 10 = some 11 := zkk_at (k := 13) rfl
def zkcL : List ((Nat × Nat) × (Int)) := [((25, 39), 2147483647), ((28, 200), 2147483639)]
def zkc (c i : Nat) : Option (Int) := (zkcL.find? (fun r => r.1.1 == c && r.1.2 == i)).map (fun r => r.2)
theorem zkc_nd : (zkcL.map (fun r => r.1)).Nodup := by decide +kernel
theorem zkc_at {k c i : Nat} {v : Int} (h : zkcL[k]? = some ((c, i), v)) : zkc c i = some v := z_find zkc_nd h
theorem zkc_mem {c i : Nat} {v : Int} (h : zkc c i = some v) : ((c, i), v) ∈ zkcL := z_found h
theorem zkc_25_39 : zkc 25 39 = some 2147483647 := zkc_at (k := 0) rfl
theorem zkc_28_200 : zkc 28 200 = some 2147483639 := zkc_at (k := 1) rfl
