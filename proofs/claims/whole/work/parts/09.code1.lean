/-! the methods' code as data (written by wip/whole/gen/code.py) -/
def q_X0_finite : zCal := (yX0_finite, cX0_finite, 2, (some .boolean), { frames := 0, cells := 0, slots := 0, locals := 0 }, 1, 0)
def q_X0_magnitude : zCal := (yX0_magnitude, cX0_magnitude, 2, (some .long), { frames := 0, cells := 0, slots := 0, locals := 0 }, 1, 0)
def q_X0_unsignedZero : zCal := (yX0_unsignedZero, cX0_unsignedZero, 2, (some .long), { frames := 0, cells := 0, slots := 0, locals := 0 }, 1, 0)
def q_X0_bitLength : zCal := (yX0_bitLength, cX0_bitLength, 6, (some .int), { frames := 0, cells := 0, slots := 0, locals := 0 }, 1, 0)
def q_X0_lowestBit : zCal := (yX0_lowestBit, cX0_lowestBit, 2, (some .int), { frames := 1, cells := 0, slots := 0, locals := 25 }, 1, 0)
def q_X0_mantissa : zCal := (yX0_mantissa, cX0_mantissa, 4, (some .long), { frames := 0, cells := 0, slots := 0, locals := 0 }, 1, 0)
def q_X0_scale : zCal := (yX0_scale, cX0_scale, 3, (some .int), { frames := 0, cells := 0, slots := 0, locals := 0 }, 1, 0)
def q_X0_fullMantissa : zCal := (yX0_fullMantissa, cX0_fullMantissa, 4, (some .long), { frames := 1, cells := 0, slots := 0, locals := 25 }, 1, 0)
def q_X0_fullScale : zCal := (yX0_fullScale, cX0_fullScale, 2, (some .int), { frames := 1, cells := 0, slots := 0, locals := 25 }, 1, 0)
def q_X0_isLatticeNumber : zCal := (yX0_isLatticeNumber, cX0_isLatticeNumber, 4, (some .boolean), { frames := 2, cells := 0, slots := 0, locals := 46 }, 1, 0)
def q_X0_above : zCal := (yX0_above, cX0_above, 2, (some .long), { frames := 1, cells := 0, slots := 0, locals := 21 }, 1, 0)
def q_X0_rounded : zCal := (yX0_rounded, cX0_rounded, 19, (some .long), { frames := 1, cells := 0, slots := 0, locals := 25 }, 5, 0)
def q_X0_plus : zCal := (yX0_plus, cX0_plus, 19, (some .long), { frames := 2, cells := 0, slots := 0, locals := 63 }, 2, 0)
def q_X0_high : zCal := (yX0_high, cX0_high, 16, (some .long), { frames := 0, cells := 0, slots := 0, locals := 0 }, 2, 0)
def q_X0_times : zCal := (yX0_times, cX0_times, 10, (some .long), { frames := 2, cells := 0, slots := 0, locals := 63 }, 2, 0)
def q_X0_over : zCal := (yX0_over, cX0_over, 14, (some .long), { frames := 2, cells := 0, slots := 0, locals := 63 }, 2, 0)
def q_X0_root : zCal := (yX0_root, cX0_root, 12, (some .long), { frames := 2, cells := 0, slots := 0, locals := 63 }, 1, 0)
def q_X0_lowerPart : zCal := (yX0_lowerPart, cX0_lowerPart, 5, (some .long), { frames := 0, cells := 0, slots := 0, locals := 0 }, 3, 0)
def q_X0_below : zCal := (yX0_below, cX0_below, 4, (some .boolean), { frames := 0, cells := 0, slots := 0, locals := 0 }, 2, 0)
def q_X0_fused : zCal := (yX0_fused, cX0_fused, 25, (some .long), { frames := 2, cells := 0, slots := 0, locals := 63 }, 3, 0)
def q_X0_less : zCal := (yX0_less, cX0_less, 9, (some .long), { frames := 3, cells := 0, slots := 0, locals := 107 }, 4, 0)
def q_X9_init : zCal := (yX9_init, cX9_init, 2, none, { frames := 1, cells := 1, slots := 56, locals := 20 }, 1, 2)
def q_X1_init : zCal := (yX1_init, cX1_init, 2, none, { frames := 2, cells := 267, slots := 7932, locals := 41 }, 0, 2)
def q_X1_at : zCal := (yX1_at, cX1_at, 4, (some (.object "SystemLab$Whole")), { frames := 0, cells := 0, slots := 0, locals := 0 }, 2, 1)
def q_X3_inside : zCal := (yX3_inside, cX3_inside, 3, (some .boolean), { frames := 0, cells := 0, slots := 0, locals := 0 }, 2, 1)
def q_X3_at : zCal := (yX3_at, cX3_at, 3, (some .long), { frames := 1, cells := 0, slots := 0, locals := 22 }, 2, 1)
def q_X1_lowerUnit : zCal := (yX1_lowerUnit, cX1_lowerUnit, 5, none, { frames := 2, cells := 0, slots := 0, locals := 46 }, 1, 1)
def q_X9_zero : zCal := (yX9_zero, cX9_zero, 1, none, { frames := 0, cells := 0, slots := 0, locals := 0 }, 0, 1)
def q_X9_trim : zCal := (yX9_trim, cX9_trim, 1, none, { frames := 0, cells := 0, slots := 0, locals := 0 }, 0, 1)
def q_X9_shiftUp : zCal := (yX9_shiftUp, cX9_shiftUp, 7, none, { frames := 1, cells := 0, slots := 0, locals := 20 }, 1, 1)
def q_X9_become : zCal := (yX9_become, cX9_become, 5, none, { frames := 2, cells := 0, slots := 0, locals := 46 }, 3, 1)
def q_X1_loadNumber : zCal := (yX1_loadNumber, cX1_loadNumber, 7, none, { frames := 3, cells := 0, slots := 0, locals := 70 }, 2, 1)
def q_X1_prepare : zCal := (yX1_prepare, cX1_prepare, 5, none, { frames := 4, cells := 0, slots := 0, locals := 96 }, 2, 1)
def q_X1_appendUnits : zCal := (yX1_appendUnits, cX1_appendUnits, 3, none, { frames := 3, cells := 0, slots := 0, locals := 70 }, 0, 1)
def q_X9_trailingZeros : zCal := (yX9_trailingZeros, cX9_trailingZeros, 2, (some .int), { frames := 2, cells := 0, slots := 0, locals := 46 }, 0, 1)
def q_X9_shiftDown : zCal := (yX9_shiftDown, cX9_shiftDown, 7, none, { frames := 1, cells := 0, slots := 0, locals := 23 }, 1, 1)
def q_X9_inverseOfLowest : zCal := (yX9_inverseOfLowest, cX9_inverseOfLowest, 4, (some .int), { frames := 0, cells := 0, slots := 0, locals := 0 }, 0, 1)
def q_X1_prepareDivisor : zCal := (yX1_prepareDivisor, cX1_prepareDivisor, 1, none, { frames := 3, cells := 0, slots := 0, locals := 67 }, 0, 1)
def q_X1_rowWithPivot : zCal := (yX1_rowWithPivot, cX1_rowWithPivot, 3, (some .int), { frames := 1, cells := 0, slots := 0, locals := 23 }, 1, 1)
def q_X1_exchangeRows : zCal := (yX1_exchangeRows, cX1_exchangeRows, 5, none, { frames := 1, cells := 0, slots := 0, locals := 23 }, 2, 1)
def q_X9_becomeProduct : zCal := (yX9_becomeProduct, cX9_becomeProduct, 10, none, { frames := 1, cells := 0, slots := 0, locals := 20 }, 2, 1)
def q_X9_copy : zCal := (yX9_copy, cX9_copy, 3, none, { frames := 1, cells := 0, slots := 0, locals := 20 }, 1, 1)
def q_X9_addSize : zCal := (yX9_addSize, cX9_addSize, 6, none, { frames := 1, cells := 0, slots := 0, locals := 23 }, 1, 1)
def q_X9_compareSize : zCal := (yX9_compareSize, cX9_compareSize, 3, (some .int), { frames := 0, cells := 0, slots := 0, locals := 0 }, 1, 1)
def q_X9_lessSize : zCal := (yX9_lessSize, cX9_lessSize, 11, none, { frames := 1, cells := 0, slots := 0, locals := 23 }, 2, 1)
def q_X9_subtract : zCal := (yX9_subtract, cX9_subtract, 2, none, { frames := 2, cells := 0, slots := 0, locals := 53 }, 1, 1)
def q_X9_takeMultiple : zCal := (yX9_takeMultiple, cX9_takeMultiple, 16, none, { frames := 1, cells := 0, slots := 0, locals := 23 }, 4, 1)
def q_X9_becomeQuotient : zCal := (yX9_becomeQuotient, cX9_becomeQuotient, 7, none, { frames := 2, cells := 0, slots := 0, locals := 58 }, 3, 1)
def q_X1_workRow : zCal := (yX1_workRow, cX1_workRow, 8, none, { frames := 3, cells := 0, slots := 0, locals := 84 }, 2, 1)
def q_X1_eliminate : zCal := (yX1_eliminate, cX1_eliminate, 5, none, { frames := 4, cells := 0, slots := 0, locals := 111 }, 1, 1)
def q_X1_rankOf : zCal := (yX1_rankOf, cX1_rankOf, 2, (some .int), { frames := 5, cells := 0, slots := 0, locals := 135 }, 1, 1)
def q_X1_solutions : zCal := (yX1_solutions, cX1_solutions, 4, (some .int), { frames := 5, cells := 0, slots := 0, locals := 135 }, 2, 1)
def q_X9_countBits : zCal := (yX9_countBits, cX9_countBits, 1, (some .int), { frames := 1, cells := 0, slots := 0, locals := 25 }, 0, 1)
def q_X1_ratio : zCal := (yX1_ratio, cX1_ratio, 9, (some .long), { frames := 2, cells := 0, slots := 0, locals := 63 }, 2, 1)
def q_X1_quotient : zCal := (yX1_quotient, cX1_quotient, 4, (some .long), { frames := 3, cells := 0, slots := 0, locals := 91 }, 3, 1)
def q_X1_writeSolution : zCal := (yX1_writeSolution, cX1_writeSolution, 3, none, { frames := 4, cells := 0, slots := 0, locals := 114 }, 1, 1)
def q_X1_freeColumn : zCal := (yX1_freeColumn, cX1_freeColumn, 4, (some .int), { frames := 0, cells := 0, slots := 0, locals := 0 }, 1, 1)
def q_X1_writeNullVector : zCal := (yX1_writeNullVector, cX1_writeNullVector, 7, (some .boolean), { frames := 5, cells := 0, slots := 0, locals := 135 }, 3, 1)
def q_X1_determinantToLeft : zCal := (yX1_determinantToLeft, cX1_determinantToLeft, 2, none, { frames := 5, cells := 0, slots := 0, locals := 135 }, 1, 1)
def q_X1_determinantOf : zCal := (yX1_determinantOf, cX1_determinantOf, 2, (some .long), { frames := 6, cells := 0, slots := 0, locals := 156 }, 1, 1)
def q_X9_digit : zCal := (yX9_digit, cX9_digit, 2, (some .int), { frames := 0, cells := 0, slots := 0, locals := 0 }, 1, 1)
def q_X1_determinantDigits : zCal := (yX1_determinantDigits, cX1_determinantDigits, 3, (some .int), { frames := 6, cells := 0, slots := 0, locals := 156 }, 2, 1)
def q_X1_greatestRowSum : zCal := (yX1_greatestRowSum, cX1_greatestRowSum, 4, none, { frames := 2, cells := 0, slots := 0, locals := 48 }, 1, 1)
def q_X1_conditionOf : zCal := (yX1_conditionOf, cX1_conditionOf, 2, (some .long), { frames := 5, cells := 0, slots := 0, locals := 135 }, 1, 1)
def q_X2_init : zCal := (yX2_init, cX2_init, 1, none, { frames := 1, cells := 5, slots := 96, locals := 20 }, 0, 2)
def q_X2_at : zCal := (yX2_at, cX2_at, 4, (some .long), { frames := 0, cells := 0, slots := 0, locals := 0 }, 2, 1)
def q_X2_store : zCal := (yX2_store, cX2_store, 6, none, { frames := 0, cells := 0, slots := 0, locals := 0 }, 3, 1)
def q_X3_greatestSize : zCal := (yX3_greatestSize, cX3_greatestSize, 5, (some .long), { frames := 2, cells := 0, slots := 0, locals := 44 }, 0, 1)
def q_X2_rootStep : zCal := (yX2_rootStep, cX2_rootStep, 7, (some .boolean), { frames := 4, cells := 0, slots := 0, locals := 135 }, 2, 1)
def q_X2_makeByRoots : zCal := (yX2_makeByRoots, cX2_makeByRoots, 3, (some .int), { frames := 5, cells := 0, slots := 0, locals := 161 }, 0, 1)
def q_X2_exchangeRows : zCal := (yX2_exchangeRows, cX2_exchangeRows, 6, none, { frames := 1, cells := 0, slots := 0, locals := 25 }, 2, 1)
def q_X2_exchangeColumns : zCal := (yX2_exchangeColumns, cX2_exchangeColumns, 6, none, { frames := 1, cells := 0, slots := 0, locals := 25 }, 2, 1)
def q_X2_exchange : zCal := (yX2_exchange, cX2_exchange, 7, none, { frames := 2, cells := 0, slots := 0, locals := 50 }, 1, 1)
def q_X2_workRow : zCal := (yX2_workRow, cX2_workRow, 8, (some .boolean), { frames := 4, cells := 0, slots := 0, locals := 135 }, 2, 1)
def q_X2_makeByPivots : zCal := (yX2_makeByPivots, cX2_makeByPivots, 3, (some .int), { frames := 5, cells := 0, slots := 0, locals := 162 }, 0, 1)
def q_X2_make : zCal := (yX2_make, cX2_make, 6, (some .int), { frames := 6, cells := 0, slots := 0, locals := 184 }, 3, 1)
def q_X2_forward : zCal := (yX2_forward, cX2_forward, 7, (some .boolean), { frames := 4, cells := 0, slots := 0, locals := 135 }, 2, 1)
def q_X2_backward : zCal := (yX2_backward, cX2_backward, 5, (some .boolean), { frames := 4, cells := 0, slots := 0, locals := 135 }, 1, 1)
def q_X2_answer : zCal := (yX2_answer, cX2_answer, 5, (some .boolean), { frames := 5, cells := 0, slots := 0, locals := 161 }, 2, 1)
def q_X2_grown : zCal := (yX2_grown, cX2_grown, 5, (some .long), { frames := 3, cells := 0, slots := 0, locals := 96 }, 0, 1)
def q_X2_pivotProduct : zCal := (yX2_pivotProduct, cX2_pivotProduct, 11, (some .long), { frames := 3, cells := 0, slots := 0, locals := 92 }, 1, 1)
def q_X3_init : zCal := (yX3_init, cX3_init, 1, none, { frames := 1, cells := 1, slots := 64, locals := 20 }, 0, 2)
def q_X3_sound : zCal := (yX3_sound, cX3_sound, 5, (some .boolean), { frames := 0, cells := 0, slots := 0, locals := 0 }, 5, 0)
def q_X3_begin : zCal := (yX3_begin, cX3_begin, 7, none, { frames := 0, cells := 0, slots := 0, locals := 0 }, 5, 1)
def q_X3_hasPlace : zCal := (yX3_hasPlace, cX3_hasPlace, 3, (some .boolean), { frames := 1, cells := 0, slots := 0, locals := 22 }, 2, 1)
def q_X3_store : zCal := (yX3_store, cX3_store, 5, none, { frames := 1, cells := 0, slots := 0, locals := 22 }, 3, 1)
def q_X3_filled : zCal := (yX3_filled, cX3_filled, 4, (some .int), { frames := 2, cells := 0, slots := 0, locals := 44 }, 0, 1)
def q_X3_onLattice : zCal := (yX3_onLattice, cX3_onLattice, 3, (some .boolean), { frames := 3, cells := 0, slots := 0, locals := 69 }, 0, 1)
def q_X3_width : zCal := (yX3_width, cX3_width, 4, (some .int), { frames := 2, cells := 0, slots := 0, locals := 44 }, 0, 1)
def q_X3_alike : zCal := (yX3_alike, cX3_alike, 2, (some .boolean), { frames := 0, cells := 0, slots := 0, locals := 0 }, 1, 1)
def q_X3_equalNumbers : zCal := (yX3_equalNumbers, cX3_equalNumbers, 4, (some .boolean), { frames := 2, cells := 0, slots := 0, locals := 44 }, 1, 1)
def q_X3_becomeSum : zCal := (yX3_becomeSum, cX3_becomeSum, 7, (some .boolean), { frames := 3, cells := 0, slots := 0, locals := 101 }, 2, 1)
def q_X3_becomeProduct : zCal := (yX3_becomeProduct, cX3_becomeProduct, 9, (some .boolean), { frames := 4, cells := 0, slots := 0, locals := 135 }, 3, 1)
def q_X3_takeNumbers : zCal := (yX3_takeNumbers, cX3_takeNumbers, 4, (some .boolean), { frames := 3, cells := 0, slots := 0, locals := 67 }, 1, 1)
def q_X4_init : zCal := (yX4_init, cX4_init, 1, none, { frames := 1, cells := 4, slots := 32, locals := 20 }, 0, 2)
def q_X4_rowAt : zCal := (yX4_rowAt, cX4_rowAt, 2, (some .int), { frames := 0, cells := 0, slots := 0, locals := 0 }, 1, 1)
def q_X4_near : zCal := (yX4_near, cX4_near, 3, (some .boolean), { frames := 2, cells := 0, slots := 0, locals := 44 }, 3, 0)
def q_X4_countNeighbours : zCal := (yX4_countNeighbours, cX4_countNeighbours, 4, none, { frames := 3, cells := 0, slots := 0, locals := 66 }, 1, 1)
def q_X4_fewest : zCal := (yX4_fewest, cX4_fewest, 5, (some .int), { frames := 3, cells := 0, slots := 0, locals := 66 }, 2, 1)
def q_X4_append : zCal := (yX4_append, cX4_append, 2, none, { frames := 0, cells := 0, slots := 0, locals := 0 }, 1, 1)
def q_X4_appendNeighbours : zCal := (yX4_appendNeighbours, cX4_appendNeighbours, 4, none, { frames := 4, cells := 0, slots := 0, locals := 90 }, 2, 1)
def q_X4_widthSo : zCal := (yX4_widthSo, cX4_widthSo, 5, (some .int), { frames := 2, cells := 0, slots := 0, locals := 44 }, 1, 1)
def q_X4_arrange : zCal := (yX4_arrange, cX4_arrange, 4, none, { frames := 5, cells := 0, slots := 0, locals := 113 }, 1, 1)
def q_X7_init : zCal := (yX7_init, cX7_init, 1, none, { frames := 1, cells := 1, slots := 136, locals := 20 }, 0, 2)
def q_X5_init : zCal := (yX5_init, cX5_init, 1, none, { frames := 2, cells := 13, slots := 600, locals := 40 }, 0, 2)
def q_X7_clear : zCal := (yX7_clear, cX7_clear, 2, none, { frames := 0, cells := 0, slots := 0, locals := 0 }, 0, 1)
def q_X7_addPiece : zCal := (yX7_addPiece, cX7_addPiece, 14, none, { frames := 1, cells := 0, slots := 0, locals := 23 }, 3, 1)
def q_X7_addNumber : zCal := (yX7_addNumber, cX7_addNumber, 4, none, { frames := 2, cells := 0, slots := 0, locals := 56 }, 2, 1)
def q_X7_addProduct : zCal := (yX7_addProduct, cX7_addProduct, 16, none, { frames := 2, cells := 0, slots := 0, locals := 56 }, 3, 1)
def q_X7_carry : zCal := (yX7_carry, cX7_carry, 7, (some .long), { frames := 0, cells := 0, slots := 0, locals := 0 }, 1, 1)
def q_X7_settle : zCal := (yX7_settle, cX7_settle, 1, none, { frames := 1, cells := 0, slots := 0, locals := 26 }, 0, 1)
def q_X5_exact : zCal := (yX5_exact, cX5_exact, 6, none, { frames := 3, cells := 0, slots := 0, locals := 91 }, 4, 1)
def q_X7_toDouble : zCal := (yX7_toDouble, cX7_toDouble, 14, (some .long), { frames := 2, cells := 0, slots := 0, locals := 63 }, 1, 1)
def q_X5_roundedAt : zCal := (yX5_roundedAt, cX5_roundedAt, 7, (some .long), { frames := 4, cells := 0, slots := 0, locals := 116 }, 4, 1)
def q_X7_exceeds : zCal := (yX7_exceeds, cX7_exceeds, 4, (some .boolean), { frames := 1, cells := 0, slots := 0, locals := 23 }, 1, 1)
def q_X7_copy : zCal := (yX7_copy, cX7_copy, 3, none, { frames := 1, cells := 0, slots := 0, locals := 21 }, 1, 1)
def q_X5_measure : zCal := (yX5_measure, cX5_measure, 7, none, { frames := 4, cells := 0, slots := 0, locals := 116 }, 5, 1)
def q_X5_greatestUp : zCal := (yX5_greatestUp, cX5_greatestUp, 4, (some .long), { frames := 5, cells := 0, slots := 0, locals := 142 }, 3, 1)
def q_X5_start : zCal := (yX5_start, cX5_start, 5, none, { frames := 5, cells := 0, slots := 0, locals := 142 }, 3, 1)
def q_X5_finish : zCal := (yX5_finish, cX5_finish, 4, none, { frames := 0, cells := 0, slots := 0, locals := 0 }, 2, 1)
def q_X5_round : zCal := (yX5_round, cX5_round, 5, (some .boolean), { frames := 6, cells := 0, slots := 0, locals := 185 }, 3, 1)
def q_X5_lack : zCal := (yX5_lack, cX5_lack, 6, none, { frames := 3, cells := 0, slots := 0, locals := 91 }, 4, 1)
def q_X7_addSize : zCal := (yX7_addSize, cX7_addSize, 3, none, { frames := 1, cells := 0, slots := 0, locals := 23 }, 1, 1)
def q_X5_gapOf : zCal := (yX5_gapOf, cX5_gapOf, 5, (some .long), { frames := 4, cells := 0, slots := 0, locals := 116 }, 2, 1)
def q_X5_sumAbove : zCal := (yX5_sumAbove, cX5_sumAbove, 7, (some .long), { frames := 3, cells := 0, slots := 0, locals := 101 }, 1, 0)
def q_X5_boundOf : zCal := (yX5_boundOf, cX5_boundOf, 17, (some .long), { frames := 6, cells := 0, slots := 0, locals := 165 }, 4, 1)
def q_X6_init : zCal := (yX6_init, cX6_init, 1, none, { frames := 1, cells := 2, slots := 1200, locals := 20 }, 0, 2)
def q_X6_hasRoom : zCal := (yX6_hasRoom, cX6_hasRoom, 2, (some .boolean), { frames := 0, cells := 0, slots := 0, locals := 0 }, 1, 1)
def q_X6_append : zCal := (yX6_append, cX6_append, 3, none, { frames := 0, cells := 0, slots := 0, locals := 0 }, 1, 1)
def q_X6_packedAt : zCal := (yX6_packedAt, cX6_packedAt, 2, (some .int), { frames := 0, cells := 0, slots := 0, locals := 0 }, 1, 1)
def q_X6_takePacked : zCal := (yX6_takePacked, cX6_takePacked, 2, (some .int), { frames := 0, cells := 0, slots := 0, locals := 0 }, 0, 1)
def q_X6_write : zCal := (yX6_write, cX6_write, 2, none, { frames := 0, cells := 0, slots := 0, locals := 0 }, 1, 1)
def q_X6_writeNumber : zCal := (yX6_writeNumber, cX6_writeNumber, 4, none, { frames := 1, cells := 0, slots := 0, locals := 21 }, 1, 1)
def q_X6_checkOf : zCal := (yX6_checkOf, cX6_checkOf, 4, (some .int), { frames := 0, cells := 0, slots := 0, locals := 0 }, 2, 0)
def q_X6_writeMatrix : zCal := (yX6_writeMatrix, cX6_writeMatrix, 5, (some .int), { frames := 3, cells := 0, slots := 0, locals := 67 }, 1, 1)
def q_X6_next : zCal := (yX6_next, cX6_next, 1, (some .int), { frames := 0, cells := 0, slots := 0, locals := 0 }, 0, 1)
def q_X6_nextNumber : zCal := (yX6_nextNumber, cX6_nextNumber, 4, (some .long), { frames := 1, cells := 0, slots := 0, locals := 20 }, 0, 1)
def q_X6_readNumber : zCal := (yX6_readNumber, cX6_readNumber, 6, (some .boolean), { frames := 2, cells := 0, slots := 0, locals := 46 }, 3, 1)
def q_X6_readSparse : zCal := (yX6_readSparse, cX6_readSparse, 8, (some .boolean), { frames := 3, cells := 0, slots := 0, locals := 71 }, 1, 1)
def q_X6_readPlaces : zCal := (yX6_readPlaces, cX6_readPlaces, 4, (some .boolean), { frames := 3, cells := 0, slots := 0, locals := 71 }, 1, 1)
def q_X6_read : zCal := (yX6_read, cX6_read, 10, (some .boolean), { frames := 4, cells := 0, slots := 0, locals := 98 }, 1, 1)
def q_X8_init : zCal := (yX8_init, cX8_init, 1, none, { frames := 1, cells := 1, slots := 8, locals := 20 }, 0, 2)
def q_X8_begin : zCal := (yX8_begin, cX8_begin, 3, none, { frames := 0, cells := 0, slots := 0, locals := 0 }, 1, 1)
def q_X8_onLattice : zCal := (yX8_onLattice, cX8_onLattice, 2, (some .boolean), { frames := 3, cells := 0, slots := 0, locals := 69 }, 0, 1)
def q_X10_init : zCal := (yX10_init, cX10_init, 2, none, { frames := 3, cells := 463, slots := 13127, locals := 62 }, 0, 2)
def q_X10_freeMatrix : zCal := (yX10_freeMatrix, cX10_freeMatrix, 2, (some .int), { frames := 0, cells := 0, slots := 0, locals := 0 }, 0, 1)
def q_X10_matrix : zCal := (yX10_matrix, cX10_matrix, 7, (some .int), { frames := 1, cells := 0, slots := 0, locals := 26 }, 5, 1)
def q_X10_matrixAt : zCal := (yX10_matrixAt, cX10_matrixAt, 2, (some (.object "SystemLab$Matrix")), { frames := 0, cells := 0, slots := 0, locals := 0 }, 1, 1)
def q_X10_drop : zCal := (yX10_drop, cX10_drop, 3, (some .boolean), { frames := 1, cells := 0, slots := 0, locals := 21 }, 1, 1)
def q_X10_put : zCal := (yX10_put, cX10_put, 8, (some .boolean), { frames := 3, cells := 0, slots := 0, locals := 67 }, 4, 1)
def q_X10_get : zCal := (yX10_get, cX10_get, 5, (some .long), { frames := 2, cells := 0, slots := 0, locals := 44 }, 3, 1)
def q_X10_shape : zCal := (yX10_shape, cX10_shape, 4, (some .int), { frames := 4, cells := 0, slots := 0, locals := 91 }, 2, 1)
def q_X10_sum : zCal := (yX10_sum, cX10_sum, 6, (some .int), { frames := 4, cells := 0, slots := 0, locals := 127 }, 2, 1)
def q_X10_product : zCal := (yX10_product, cX10_product, 7, (some .int), { frames := 5, cells := 0, slots := 0, locals := 163 }, 3, 1)
def q_X10_transpose : zCal := (yX10_transpose, cX10_transpose, 7, (some .int), { frames := 2, cells := 0, slots := 0, locals := 46 }, 1, 1)
def q_X10_formed : zCal := (yX10_formed, cX10_formed, 7, (some .int), { frames := 4, cells := 0, slots := 0, locals := 90 }, 4, 1)
def q_X10_block : zCal := (yX10_block, cX10_block, 11, (some .int), { frames := 2, cells := 0, slots := 0, locals := 46 }, 5, 1)
def q_X10_same : zCal := (yX10_same, cX10_same, 5, (some .int), { frames := 3, cells := 0, slots := 0, locals := 67 }, 2, 1)
def q_X10_freeFactor : zCal := (yX10_freeFactor, cX10_freeFactor, 2, (some .int), { frames := 0, cells := 0, slots := 0, locals := 0 }, 0, 1)
def q_X10_factor : zCal := (yX10_factor, cX10_factor, 7, (some .int), { frames := 7, cells := 0, slots := 0, locals := 209 }, 3, 1)
def q_X10_factorAt : zCal := (yX10_factorAt, cX10_factorAt, 2, (some (.object "SystemLab$Factor")), { frames := 0, cells := 0, slots := 0, locals := 0 }, 1, 1)
def q_X10_release : zCal := (yX10_release, cX10_release, 3, (some .boolean), { frames := 1, cells := 0, slots := 0, locals := 21 }, 1, 1)
def q_X10_part : zCal := (yX10_part, cX10_part, 5, (some .long), { frames := 1, cells := 0, slots := 0, locals := 23 }, 3, 1)
def q_X10_order : zCal := (yX10_order, cX10_order, 5, (some .int), { frames := 1, cells := 0, slots := 0, locals := 21 }, 3, 1)
def q_X10_growth : zCal := (yX10_growth, cX10_growth, 3, (some .long), { frames := 4, cells := 0, slots := 0, locals := 120 }, 1, 1)
def q_X10_pivots : zCal := (yX10_pivots, cX10_pivots, 4, (some .long), { frames := 4, cells := 0, slots := 0, locals := 122 }, 2, 1)
def q_X10_freeVector : zCal := (yX10_freeVector, cX10_freeVector, 2, (some .int), { frames := 0, cells := 0, slots := 0, locals := 0 }, 0, 1)
def q_X10_vector : zCal := (yX10_vector, cX10_vector, 3, (some .int), { frames := 1, cells := 0, slots := 0, locals := 22 }, 1, 1)
def q_X10_vectorAt : zCal := (yX10_vectorAt, cX10_vectorAt, 2, (some (.object "SystemLab$Vector")), { frames := 0, cells := 0, slots := 0, locals := 0 }, 1, 1)
def q_X10_forget : zCal := (yX10_forget, cX10_forget, 3, (some .boolean), { frames := 1, cells := 0, slots := 0, locals := 21 }, 1, 1)
def q_X10_set : zCal := (yX10_set, cX10_set, 6, (some .boolean), { frames := 1, cells := 0, slots := 0, locals := 21 }, 3, 1)
def q_X10_value : zCal := (yX10_value, cX10_value, 4, (some .long), { frames := 1, cells := 0, slots := 0, locals := 21 }, 2, 1)
def q_X10_size : zCal := (yX10_size, cX10_size, 3, (some .int), { frames := 1, cells := 0, slots := 0, locals := 21 }, 1, 1)
def q_X10_newVector : zCal := (yX10_newVector, cX10_newVector, 5, (some .int), { frames := 1, cells := 0, slots := 0, locals := 22 }, 2, 1)
def q_X10_solve : zCal := (yX10_solve, cX10_solve, 6, (some .int), { frames := 6, cells := 0, slots := 0, locals := 185 }, 2, 1)
def q_X10_fits : zCal := (yX10_fits, cX10_fits, 6, (some .boolean), { frames := 1, cells := 0, slots := 0, locals := 21 }, 3, 1)
def q_X10_residual : zCal := (yX10_residual, cX10_residual, 6, (some .long), { frames := 5, cells := 0, slots := 0, locals := 142 }, 4, 1)
def q_X10_greatest : zCal := (yX10_greatest, cX10_greatest, 7, (some .long), { frames := 6, cells := 0, slots := 0, locals := 165 }, 3, 1)
def q_X10_refine : zCal := (yX10_refine, cX10_refine, 9, (some .int), { frames := 7, cells := 0, slots := 0, locals := 209 }, 5, 1)
def q_X10_inverse : zCal := (yX10_inverse, cX10_inverse, 7, (some .int), { frames := 6, cells := 0, slots := 0, locals := 185 }, 1, 1)
def q_X10_exactly : zCal := (yX10_exactly, cX10_exactly, 7, (some .int), { frames := 6, cells := 0, slots := 0, locals := 158 }, 2, 1)
def q_X10_rank : zCal := (yX10_rank, cX10_rank, 3, (some .int), { frames := 6, cells := 0, slots := 0, locals := 156 }, 1, 1)
def q_X10_nullVector : zCal := (yX10_nullVector, cX10_nullVector, 5, (some .int), { frames := 6, cells := 0, slots := 0, locals := 161 }, 2, 1)
def q_X10_exactSquare : zCal := (yX10_exactSquare, cX10_exactSquare, 1, (some .boolean), { frames := 4, cells := 0, slots := 0, locals := 91 }, 1, 0)
def q_X10_determinant : zCal := (yX10_determinant, cX10_determinant, 3, (some .long), { frames := 7, cells := 0, slots := 0, locals := 177 }, 1, 1)
def q_X10_digits : zCal := (yX10_digits, cX10_digits, 4, (some .int), { frames := 7, cells := 0, slots := 0, locals := 178 }, 2, 1)
def q_X10_condition : zCal := (yX10_condition, cX10_condition, 3, (some .long), { frames := 6, cells := 0, slots := 0, locals := 156 }, 1, 1)
def q_X10_gap : zCal := (yX10_gap, cX10_gap, 7, (some .long), { frames := 5, cells := 0, slots := 0, locals := 140 }, 2, 1)
def q_X10_bound : zCal := (yX10_bound, cX10_bound, 7, (some .long), { frames := 7, cells := 0, slots := 0, locals := 201 }, 4, 1)
def q_X10_reorder : zCal := (yX10_reorder, cX10_reorder, 7, (some .int), { frames := 6, cells := 0, slots := 0, locals := 136 }, 1, 1)
def q_X10_place : zCal := (yX10_place, cX10_place, 2, (some .int), { frames := 1, cells := 0, slots := 0, locals := 21 }, 1, 1)
def q_X10_pack : zCal := (yX10_pack, cX10_pack, 3, (some .int), { frames := 4, cells := 0, slots := 0, locals := 91 }, 1, 1)
def q_X10_octet : zCal := (yX10_octet, cX10_octet, 2, (some .int), { frames := 1, cells := 0, slots := 0, locals := 21 }, 1, 1)
def q_X10_feed : zCal := (yX10_feed, cX10_feed, 6, (some .int), { frames := 1, cells := 0, slots := 0, locals := 22 }, 5, 1)
def q_X10_end : zCal := (yX10_end, cX10_end, 2, (some .boolean), { frames := 0, cells := 0, slots := 0, locals := 0 }, 1, 1)
def q_X10_take : zCal := (yX10_take, cX10_take, 1, (some .int), { frames := 1, cells := 0, slots := 0, locals := 21 }, 0, 1)
def q_X10_unpack : zCal := (yX10_unpack, cX10_unpack, 3, (some .int), { frames := 5, cells := 0, slots := 0, locals := 127 }, 0, 1)
def q_X10_countMatrices : zCal := (yX10_countMatrices, cX10_countMatrices, 3, (some .int), { frames := 0, cells := 0, slots := 0, locals := 0 }, 0, 1)
def q_X10_countFactors : zCal := (yX10_countFactors, cX10_countFactors, 3, (some .int), { frames := 0, cells := 0, slots := 0, locals := 0 }, 0, 1)
def q_X10_countVectors : zCal := (yX10_countVectors, cX10_countVectors, 3, (some .int), { frames := 0, cells := 0, slots := 0, locals := 0 }, 0, 1)
def q_X10_count : zCal := (yX10_count, cX10_count, 2, (some .int), { frames := 1, cells := 0, slots := 0, locals := 22 }, 1, 1)
def q_X11_init : zCal := (yX11_init, cX11_init, 1, none, { frames := 1, cells := 45, slots := 10019, locals := 20 }, 0, 2)
def q_Jxe99ae_isNaN_b9ae7 : zCal := (yJxe99ae_isNaN_b9ae7, cJxe99ae_isNaN_b9ae7, 2, (some .boolean), { frames := 0, cells := 0, slots := 0, locals := 0 }, 1, 0)
def q_Jxe99ae_doubleToLongBits_ccdee : zCal := (yJxe99ae_doubleToLongBits_ccdee, cJxe99ae_doubleToLongBits_ccdee, 2, (some .long), { frames := 1, cells := 0, slots := 0, locals := 23 }, 1, 0)
def q_X11_bits : zCal := (yX11_bits, cX11_bits, 2, (some .long), { frames := 2, cells := 0, slots := 0, locals := 44 }, 1, 0)
def q_X11_real : zCal := (yX11_real, cX11_real, 2, (some .double), { frames := 1, cells := 0, slots := 0, locals := 23 }, 1, 0)
def q_X11_isFinite : zCal := (yX11_isFinite, cX11_isFinite, 2, (some .boolean), { frames := 3, cells := 0, slots := 0, locals := 65 }, 1, 0)
def q_X11_isGood : zCal := (yX11_isGood, cX11_isGood, 2, (some .boolean), { frames := 0, cells := 0, slots := 0, locals := 0 }, 1, 0)
def q_X11_size : zCal := (yX11_size, cX11_size, 2, (some .double), { frames := 3, cells := 0, slots := 0, locals := 65 }, 1, 0)
def q_X11_plain : zCal := (yX11_plain, cX11_plain, 2, (some .double), { frames := 0, cells := 0, slots := 0, locals := 0 }, 1, 0)
def q_X11_whole : zCal := (yX11_whole, cX11_whole, 4, (some .long), { frames := 3, cells := 0, slots := 0, locals := 65 }, 1, 0)
def q_X11_power : zCal := (yX11_power, cX11_power, 4, (some .int), { frames := 3, cells := 0, slots := 0, locals := 65 }, 1, 0)
def q_X11_composed : zCal := (yX11_composed, cX11_composed, 5, (some .double), { frames := 2, cells := 0, slots := 0, locals := 44 }, 2, 0)
def q_X11_above : zCal := (yX11_above, cX11_above, 2, (some .double), { frames := 3, cells := 0, slots := 0, locals := 65 }, 1, 0)
def q_X11_below : zCal := (yX11_below, cX11_below, 2, (some .double), { frames := 3, cells := 0, slots := 0, locals := 65 }, 1, 0)
def q_X11_root : zCal := (yX11_root, cX11_root, 14, (some .double), { frames := 4, cells := 0, slots := 0, locals := 88 }, 1, 0)
def q_X11_none : zCal := (yX11_none, cX11_none, 2, none, { frames := 0, cells := 0, slots := 0, locals := 0 }, 0, 1)
def q_X11_lay : zCal := (yX11_lay, cX11_lay, 10, none, { frames := 0, cells := 0, slots := 0, locals := 0 }, 3, 0)
def q_X11_add : zCal := (yX11_add, cX11_add, 21, none, { frames := 4, cells := 0, slots := 0, locals := 88 }, 3, 1)
def q_X11_carry : zCal := (yX11_carry, cX11_carry, 6, none, { frames := 0, cells := 0, slots := 0, locals := 0 }, 1, 0)
def q_X11_order : zCal := (yX11_order, cX11_order, 3, (some .int), { frames := 0, cells := 0, slots := 0, locals := 0 }, 2, 0)
def q_X11_sums : zCal := (yX11_sums, cX11_sums, 6, none, { frames := 1, cells := 0, slots := 0, locals := 25 }, 0, 1)
def q_X11_bitAt : zCal := (yX11_bitAt, cX11_bitAt, 2, (some .boolean), { frames := 0, cells := 0, slots := 0, locals := 0 }, 2, 0)
def q_X11_rounded : zCal := (yX11_rounded, cX11_rounded, 9, (some .double), { frames := 3, cells := 0, slots := 0, locals := 68 }, 2, 0)
def q_X11_roundedSum : zCal := (yX11_roundedSum, cX11_roundedSum, 3, (some .double), { frames := 4, cells := 0, slots := 0, locals := 96 }, 0, 1)
def q_X11_fused : zCal := (yX11_fused, cX11_fused, 7, (some .double), { frames := 5, cells := 0, slots := 0, locals := 128 }, 3, 1)
def q_X11_isMatrix : zCal := (yX11_isMatrix, cX11_isMatrix, 2, (some .boolean), { frames := 0, cells := 0, slots := 0, locals := 0 }, 1, 1)
def q_X11_at : zCal := (yX11_at, cX11_at, 4, (some .int), { frames := 0, cells := 0, slots := 0, locals := 0 }, 3, 1)
def q_X11_isForm : zCal := (yX11_isForm, cX11_isForm, 5, (some .boolean), { frames := 0, cells := 0, slots := 0, locals := 0 }, 5, 0)
def q_X11_isPlace : zCal := (yX11_isPlace, cX11_isPlace, 5, (some .boolean), { frames := 0, cells := 0, slots := 0, locals := 0 }, 5, 0)
def q_X11_free : zCal := (yX11_free, cX11_free, 2, (some .int), { frames := 0, cells := 0, slots := 0, locals := 0 }, 0, 1)
def q_X11_made : zCal := (yX11_made, cX11_made, 8, (some .int), { frames := 0, cells := 0, slots := 0, locals := 0 }, 6, 1)
def q_X11_matrix : zCal := (yX11_matrix, cX11_matrix, 7, (some .int), { frames := 1, cells := 0, slots := 0, locals := 27 }, 5, 1)
def q_X11_drop : zCal := (yX11_drop, cX11_drop, 2, (some .boolean), { frames := 1, cells := 0, slots := 0, locals := 21 }, 1, 1)
def q_X11_filled : zCal := (yX11_filled, cX11_filled, 4, (some .int), { frames := 0, cells := 0, slots := 0, locals := 0 }, 1, 1)
def q_X11_isIn : zCal := (yX11_isIn, cX11_isIn, 4, (some .boolean), { frames := 1, cells := 0, slots := 0, locals := 21 }, 3, 1)
def q_X11_put : zCal := (yX11_put, cX11_put, 8, (some .boolean), { frames := 2, cells := 0, slots := 0, locals := 44 }, 4, 1)
def q_X11_get : zCal := (yX11_get, cX11_get, 4, (some .long), { frames := 3, cells := 0, slots := 0, locals := 65 }, 3, 1)
def q_X11_widthOf : zCal := (yX11_widthOf, cX11_widthOf, 6, (some .int), { frames := 1, cells := 0, slots := 0, locals := 23 }, 1, 1)
def q_X11_onLattice : zCal := (yX11_onLattice, cX11_onLattice, 5, (some .boolean), { frames := 4, cells := 0, slots := 0, locals := 88 }, 1, 0)
def q_X11_isLattice : zCal := (yX11_isLattice, cX11_isLattice, 4, (some .boolean), { frames := 5, cells := 0, slots := 0, locals := 112 }, 1, 1)
def q_X11_shape : zCal := (yX11_shape, cX11_shape, 3, (some .int), { frames := 6, cells := 0, slots := 0, locals := 135 }, 2, 1)
def q_X11_worked : zCal := (yX11_worked, cX11_worked, 7, (some .int), { frames := 4, cells := 0, slots := 0, locals := 86 }, 2, 1)
def q_X11_sum : zCal := (yX11_sum, cX11_sum, 5, (some .int), { frames := 5, cells := 0, slots := 0, locals := 112 }, 2, 1)
def q_X11_product : zCal := (yX11_product, cX11_product, 13, (some .int), { frames := 6, cells := 0, slots := 0, locals := 154 }, 3, 1)
def q_X11_transpose : zCal := (yX11_transpose, cX11_transpose, 4, (some .int), { frames := 5, cells := 0, slots := 0, locals := 112 }, 1, 1)
def q_X11_formed : zCal := (yX11_formed, cX11_formed, 8, (some .int), { frames := 1, cells := 0, slots := 0, locals := 27 }, 4, 1)
def q_X11_block : zCal := (yX11_block, cX11_block, 8, (some .int), { frames := 5, cells := 0, slots := 0, locals := 112 }, 5, 1)
def q_X11_same : zCal := (yX11_same, cX11_same, 5, (some .int), { frames := 1, cells := 0, slots := 0, locals := 21 }, 2, 1)
def q_X11_isFactor : zCal := (yX11_isFactor, cX11_isFactor, 2, (some .boolean), { frames := 0, cells := 0, slots := 0, locals := 0 }, 1, 1)
def q_X11_swapRows : zCal := (yX11_swapRows, cX11_swapRows, 7, none, { frames := 0, cells := 0, slots := 0, locals := 0 }, 3, 1)
def q_X11_swapColumns : zCal := (yX11_swapColumns, cX11_swapColumns, 7, none, { frames := 0, cells := 0, slots := 0, locals := 0 }, 3, 1)
def q_X11_step : zCal := (yX11_step, cX11_step, 17, (some .boolean), { frames := 6, cells := 0, slots := 0, locals := 154 }, 2, 1)
def q_X11_rootRow : zCal := (yX11_rootRow, cX11_rootRow, 12, (some .boolean), { frames := 6, cells := 0, slots := 0, locals := 154 }, 2, 1)
def q_X11_factor : zCal := (yX11_factor, cX11_factor, 9, (some .int), { frames := 7, cells := 0, slots := 0, locals := 190 }, 3, 1)
def q_X11_release : zCal := (yX11_release, cX11_release, 2, (some .boolean), { frames := 1, cells := 0, slots := 0, locals := 21 }, 1, 1)
def q_X11_isOfFactor : zCal := (yX11_isOfFactor, cX11_isOfFactor, 3, (some .boolean), { frames := 1, cells := 0, slots := 0, locals := 21 }, 2, 1)
def q_X11_part : zCal := (yX11_part, cX11_part, 4, (some .long), { frames := 3, cells := 0, slots := 0, locals := 65 }, 3, 1)
def q_X11_order_ : zCal := (yX11_order_, cX11_order_, 4, (some .int), { frames := 2, cells := 0, slots := 0, locals := 43 }, 3, 1)
def q_X11_growth : zCal := (yX11_growth, cX11_growth, 8, (some .long), { frames := 4, cells := 0, slots := 0, locals := 86 }, 1, 1)
def q_X11_multiplies : zCal := (yX11_multiplies, cX11_multiplies, 5, none, { frames := 4, cells := 0, slots := 0, locals := 86 }, 2, 1)
def q_X11_pivots : zCal := (yX11_pivots, cX11_pivots, 11, (some .long), { frames := 5, cells := 0, slots := 0, locals := 110 }, 2, 1)
def q_X11_isVector : zCal := (yX11_isVector, cX11_isVector, 2, (some .boolean), { frames := 0, cells := 0, slots := 0, locals := 0 }, 1, 1)
def q_X11_freeVector : zCal := (yX11_freeVector, cX11_freeVector, 2, (some .int), { frames := 0, cells := 0, slots := 0, locals := 0 }, 0, 1)
def q_X11_vector : zCal := (yX11_vector, cX11_vector, 4, (some .int), { frames := 1, cells := 0, slots := 0, locals := 21 }, 1, 1)
def q_X11_forget : zCal := (yX11_forget, cX11_forget, 2, (some .boolean), { frames := 1, cells := 0, slots := 0, locals := 21 }, 1, 1)
def q_X11_set : zCal := (yX11_set, cX11_set, 5, (some .boolean), { frames := 2, cells := 0, slots := 0, locals := 44 }, 3, 1)
def q_X11_value : zCal := (yX11_value, cX11_value, 3, (some .long), { frames := 3, cells := 0, slots := 0, locals := 65 }, 2, 1)
def q_X11_size_ : zCal := (yX11_size_, cX11_size_, 2, (some .int), { frames := 1, cells := 0, slots := 0, locals := 21 }, 1, 1)
def q_X11_less : zCal := (yX11_less, cX11_less, 8, (some .double), { frames := 6, cells := 0, slots := 0, locals := 154 }, 4, 1)
def q_X11_solves : zCal := (yX11_solves, cX11_solves, 10, (some .boolean), { frames := 7, cells := 0, slots := 0, locals := 181 }, 1, 1)
def q_X11_solve : zCal := (yX11_solve, cX11_solve, 5, (some .int), { frames := 8, cells := 0, slots := 0, locals := 210 }, 2, 1)
def q_X11_residualOf : zCal := (yX11_residualOf, cX11_residualOf, 5, none, { frames := 5, cells := 0, slots := 0, locals := 128 }, 3, 1)
def q_X11_fits : zCal := (yX11_fits, cX11_fits, 4, (some .boolean), { frames := 1, cells := 0, slots := 0, locals := 21 }, 3, 1)
def q_X11_tries : zCal := (yX11_tries, cX11_tries, 3, none, { frames := 0, cells := 0, slots := 0, locals := 0 }, 1, 1)
def q_X11_residual : zCal := (yX11_residual, cX11_residual, 7, (some .long), { frames := 6, cells := 0, slots := 0, locals := 152 }, 4, 1)
def q_X11_greatestOf : zCal := (yX11_greatestOf, cX11_greatestOf, 5, none, { frames := 6, cells := 0, slots := 0, locals := 152 }, 2, 1)
def q_X11_greatest : zCal := (yX11_greatest, cX11_greatest, 6, (some .long), { frames := 7, cells := 0, slots := 0, locals := 176 }, 3, 1)
def q_X11_refine : zCal := (yX11_refine, cX11_refine, 12, (some .int), { frames := 8, cells := 0, slots := 0, locals := 210 }, 5, 1)
def q_X11_inverse : zCal := (yX11_inverse, cX11_inverse, 5, (some .int), { frames := 8, cells := 0, slots := 0, locals := 210 }, 1, 1)
def q_X11_isLatticeVector : zCal := (yX11_isLatticeVector, cX11_isLatticeVector, 4, (some .boolean), { frames := 5, cells := 0, slots := 0, locals := 112 }, 1, 1)
def q_X11_cellAt : zCal := (yX11_cellAt, cX11_cellAt, 3, (some .int), { frames := 0, cells := 0, slots := 0, locals := 0 }, 2, 1)
def q_X11_becomes : zCal := (yX11_becomes, cX11_becomes, 13, none, { frames := 4, cells := 0, slots := 0, locals := 88 }, 2, 1)
def q_X11_loads : zCal := (yX11_loads, cX11_loads, 5, none, { frames := 5, cells := 0, slots := 0, locals := 120 }, 2, 1)
def q_X11_times : zCal := (yX11_times, cX11_times, 18, (some .int), { frames := 0, cells := 0, slots := 0, locals := 0 }, 3, 1)
def q_X11_order72 : zCal := (yX11_order72, cX11_order72, 3, (some .int), { frames := 0, cells := 0, slots := 0, locals := 0 }, 2, 0)
def q_X11_lessOther : zCal := (yX11_lessOther, cX11_lessOther, 9, (some .int), { frames := 1, cells := 0, slots := 0, locals := 22 }, 2, 1)
def q_X11_shifted : zCal := (yX11_shifted, cX11_shifted, 9, none, { frames := 0, cells := 0, slots := 0, locals := 0 }, 2, 0)
def q_X11_divided : zCal := (yX11_divided, cX11_divided, 20, none, { frames := 1, cells := 0, slots := 0, locals := 28 }, 2, 1)
def q_X11_swapBig : zCal := (yX11_swapBig, cX11_swapBig, 9, none, { frames := 1, cells := 0, slots := 0, locals := 22 }, 2, 1)
def q_X11_reduces : zCal := (yX11_reduces, cX11_reduces, 9, none, { frames := 2, cells := 0, slots := 0, locals := 67 }, 1, 1)
def q_X11_topOf : zCal := (yX11_topOf, cX11_topOf, 3, (some .int), { frames := 0, cells := 0, slots := 0, locals := 0 }, 2, 0)
def q_X11_isNotBelow : zCal := (yX11_isNotBelow, cX11_isNotBelow, 3, (some .boolean), { frames := 0, cells := 0, slots := 0, locals := 0 }, 1, 1)
def q_X11_takesOther : zCal := (yX11_takesOther, cX11_takesOther, 7, none, { frames := 0, cells := 0, slots := 0, locals := 0 }, 1, 1)
def q_X11_quotient : zCal := (yX11_quotient, cX11_quotient, 14, (some .double), { frames := 3, cells := 0, slots := 0, locals := 68 }, 2, 1)
def q_X11_takesCell : zCal := (yX11_takesCell, cX11_takesCell, 4, none, { frames := 0, cells := 0, slots := 0, locals := 0 }, 2, 1)
def q_X11_reduced : zCal := (yX11_reduced, cX11_reduced, 4, (some .double), { frames := 4, cells := 0, slots := 0, locals := 101 }, 1, 1)
def q_X11_exactly : zCal := (yX11_exactly, cX11_exactly, 6, (some .int), { frames := 6, cells := 0, slots := 0, locals := 144 }, 2, 1)
def q_X11_rank : zCal := (yX11_rank, cX11_rank, 2, (some .int), { frames := 6, cells := 0, slots := 0, locals := 144 }, 1, 1)
def q_X11_nullVector : zCal := (yX11_nullVector, cX11_nullVector, 8, (some .int), { frames := 6, cells := 0, slots := 0, locals := 144 }, 2, 1)
def q_X11_determinantOf : zCal := (yX11_determinantOf, cX11_determinantOf, 3, (some .int), { frames := 6, cells := 0, slots := 0, locals := 144 }, 1, 1)
def q_X11_isExact : zCal := (yX11_isExact, cX11_isExact, 2, (some .boolean), { frames := 6, cells := 0, slots := 0, locals := 135 }, 1, 1)
def q_X11_determinant : zCal := (yX11_determinant, cX11_determinant, 5, (some .long), { frames := 7, cells := 0, slots := 0, locals := 166 }, 1, 1)
def q_X11_digits : zCal := (yX11_digits, cX11_digits, 3, (some .int), { frames := 7, cells := 0, slots := 0, locals := 166 }, 2, 1)
def q_X11_greatestSum : zCal := (yX11_greatestSum, cX11_greatestSum, 10, none, { frames := 1, cells := 0, slots := 0, locals := 22 }, 2, 1)
def q_X11_condition : zCal := (yX11_condition, cX11_condition, 13, (some .long), { frames := 7, cells := 0, slots := 0, locals := 156 }, 1, 1)
def q_X11_gaps : zCal := (yX11_gaps, cX11_gaps, 7, (some .boolean), { frames := 6, cells := 0, slots := 0, locals := 135 }, 2, 1)
def q_X11_gap : zCal := (yX11_gap, cX11_gap, 3, (some .long), { frames := 7, cells := 0, slots := 0, locals := 161 }, 2, 1)
def q_X11_next : zCal := (yX11_next, cX11_next, 2, (some .double), { frames := 4, cells := 0, slots := 0, locals := 86 }, 1, 0)
def q_X11_bound : zCal := (yX11_bound, cX11_bound, 17, (some .long), { frames := 7, cells := 0, slots := 0, locals := 176 }, 4, 1)
def q_X11_neighbours : zCal := (yX11_neighbours, cX11_neighbours, 5, (some .int), { frames := 0, cells := 0, slots := 0, locals := 0 }, 2, 1)
def q_X11_fewest : zCal := (yX11_fewest, cX11_fewest, 5, (some .int), { frames := 1, cells := 0, slots := 0, locals := 24 }, 2, 1)
def q_X11_reorder : zCal := (yX11_reorder, cX11_reorder, 10, (some .int), { frames := 5, cells := 0, slots := 0, locals := 112 }, 1, 1)
def q_X11_place : zCal := (yX11_place, cX11_place, 2, (some .int), { frames := 0, cells := 0, slots := 0, locals := 0 }, 1, 1)
def q_X11_pack0 : zCal := (yX11_pack0, cX11_pack0, 2, none, { frames := 0, cells := 0, slots := 0, locals := 0 }, 1, 1)
def q_X11_check : zCal := (yX11_check, cX11_check, 4, (some .int), { frames := 0, cells := 0, slots := 0, locals := 0 }, 2, 0)
def q_X11_packNumber : zCal := (yX11_packNumber, cX11_packNumber, 4, none, { frames := 3, cells := 0, slots := 0, locals := 65 }, 1, 1)
def q_X11_pack : zCal := (yX11_pack, cX11_pack, 7, (some .int), { frames := 4, cells := 0, slots := 0, locals := 88 }, 1, 1)
def q_X11_octet : zCal := (yX11_octet, cX11_octet, 2, (some .int), { frames := 0, cells := 0, slots := 0, locals := 0 }, 1, 1)
def q_X11_feed : zCal := (yX11_feed, cX11_feed, 8, (some .int), { frames := 0, cells := 0, slots := 0, locals := 0 }, 5, 1)
def q_X11_end : zCal := (yX11_end, cX11_end, 2, (some .boolean), { frames := 0, cells := 0, slots := 0, locals := 0 }, 1, 1)
def q_X11_take : zCal := (yX11_take, cX11_take, 2, (some .int), { frames := 0, cells := 0, slots := 0, locals := 0 }, 0, 1)
def q_X11_numberHere : zCal := (yX11_numberHere, cX11_numberHere, 4, (some .long), { frames := 0, cells := 0, slots := 0, locals := 0 }, 0, 1)
def q_X11_mayBe : zCal := (yX11_mayBe, cX11_mayBe, 2, (some .boolean), { frames := 1, cells := 0, slots := 0, locals := 21 }, 1, 0)
def q_X11_unpacked : zCal := (yX11_unpacked, cX11_unpacked, 8, (some .int), { frames := 1, cells := 0, slots := 0, locals := 27 }, 6, 1)
def q_X11_unpackSparse : zCal := (yX11_unpackSparse, cX11_unpackSparse, 12, (some .int), { frames := 2, cells := 0, slots := 0, locals := 54 }, 4, 1)
def q_X11_unpackPlaces : zCal := (yX11_unpackPlaces, cX11_unpackPlaces, 13, (some .int), { frames := 2, cells := 0, slots := 0, locals := 54 }, 4, 1)
def q_X11_unpack : zCal := (yX11_unpack, cX11_unpack, 7, (some .int), { frames := 3, cells := 0, slots := 0, locals := 86 }, 0, 1)
def q_X11_count : zCal := (yX11_count, cX11_count, 4, (some .int), { frames := 0, cells := 0, slots := 0, locals := 0 }, 1, 1)
set_option maxRecDepth 100000 in
theorem wd_X0_finite : zwd q_X0_finite := ⟨zw_in (p := (2, 133)) (by decide +kernel), zw_in (p := (1, 12)) (by decide +kernel), fun _ => zw_in (p := (2, 132)) (by decide +kernel), fun h => absurd rfl h, fun h => absurd h (by decide)⟩
def cal_X0_finite : List zCal := []
def b_X0_finite_17 : List zE := (17, .ireturn, []) :: []
def p_X0_finite_17 : List (List (Nat × Nat)) := [] :: []
def b_X0_finite_16 : List zE := (16, .iconst 0, [0]) :: (17, .nop, [0]) :: []
def p_X0_finite_16 : List (List (Nat × Nat)) := [] :: [] :: []
def b_X0_finite_0 : List zE := (0, .lload_n 0, []) :: (1, .ldc2_w 11, [9218868437227405312]) :: (4, .land, []) :: (5, .ldc2_w 11, [9218868437227405312]) :: (8, .lcmp, []) :: (9, .ifCond .eq 7, [16, 0]) :: (12, .iconst 1, [1]) :: (13, .goto 4, [17, 0]) :: []
def p_X0_finite_0 : List (List (Nat × Nat)) := [] :: [(2, 134)] :: [] :: [(2, 134)] :: [] :: [] :: [] :: [] :: []
def bl_X0_finite : List (Nat × List zE) := [(0, b_X0_finite_0), (16, b_X0_finite_16), (17, b_X0_finite_17)]
def pl_X0_finite : List (List (List (Nat × Nat))) := [p_X0_finite_0, p_X0_finite_16, p_X0_finite_17]
theorem k_X0_finite_0 : zlk 0 bl_X0_finite = b_X0_finite_0 := rfl
theorem k_X0_finite_16 : zlk 16 bl_X0_finite = b_X0_finite_16 := rfl
theorem k_X0_finite_17 : zlk 17 bl_X0_finite = b_X0_finite_17 := rfl
set_option maxRecDepth 100000 in
theorem ck_X0_finite : zall q_X0_finite.2.2.2.2.1 q_X0_finite.2.1 0 false q_X0_finite.2.2.1 cal_X0_finite q_X0_finite.2.2.2.1 bl_X0_finite pl_X0_finite = true := by decide +kernel
theorem nm_X0_finite : plainName q_X0_finite.1.cls = true ∧ zRX 0 = q_X0_finite.1.cls ∧ (false = true → q_X0_finite.1.name = "<init>") := ⟨by decide +kernel, rfl, fun h => by first | rfl | cases h⟩
set_option maxRecDepth 100000 in
theorem wd_X0_magnitude : zwd q_X0_magnitude := ⟨zw_in (p := (2, 137)) (by decide +kernel), zw_in (p := (1, 12)) (by decide +kernel), fun _ => zw_in (p := (2, 136)) (by decide +kernel), fun h => absurd rfl h, fun h => absurd h (by decide)⟩
def cal_X0_magnitude : List zCal := []
def b_X0_magnitude_0 : List zE := (0, .lload_n 0, []) :: (1, .ldc2_w 13, [9223372036854775807]) :: (4, .land, []) :: (5, .lreturn, []) :: []
def p_X0_magnitude_0 : List (List (Nat × Nat)) := [] :: [(2, 138)] :: [] :: [] :: []
def bl_X0_magnitude : List (Nat × List zE) := [(0, b_X0_magnitude_0)]
def pl_X0_magnitude : List (List (List (Nat × Nat))) := [p_X0_magnitude_0]
theorem k_X0_magnitude_0 : zlk 0 bl_X0_magnitude = b_X0_magnitude_0 := rfl
set_option maxRecDepth 100000 in
theorem ck_X0_magnitude : zall q_X0_magnitude.2.2.2.2.1 q_X0_magnitude.2.1 0 false q_X0_magnitude.2.2.1 cal_X0_magnitude q_X0_magnitude.2.2.2.1 bl_X0_magnitude pl_X0_magnitude = true := by decide +kernel
theorem nm_X0_magnitude : plainName q_X0_magnitude.1.cls = true ∧ zRX 0 = q_X0_magnitude.1.cls ∧ (false = true → q_X0_magnitude.1.name = "<init>") := ⟨by decide +kernel, rfl, fun h => by first | rfl | cases h⟩
set_option maxRecDepth 100000 in
theorem wd_X0_unsignedZero : zwd q_X0_unsignedZero := ⟨zw_in (p := (2, 154)) (by decide +kernel), zw_in (p := (1, 12)) (by decide +kernel), fun _ => zw_in (p := (2, 153)) (by decide +kernel), fun h => absurd rfl h, fun h => absurd h (by decide)⟩
def cal_X0_unsignedZero : List zCal := []
def b_X0_unsignedZero_13 : List zE := (13, .lreturn, []) :: []
def p_X0_unsignedZero_13 : List (List (Nat × Nat)) := [] :: []
def b_X0_unsignedZero_12 : List zE := (12, .lload_n 0, []) :: (13, .nop, [0]) :: []
def p_X0_unsignedZero_12 : List (List (Nat × Nat)) := [] :: [] :: []
def b_X0_unsignedZero_0 : List zE := (0, .lload_n 0, []) :: (1, .ldc2_w 15, [9223372036854775808]) :: (4, .lcmp, []) :: (5, .ifCond .ne 7, [12, 0]) :: (8, .lconst 0, [0]) :: (9, .goto 4, [13, 0]) :: []
def p_X0_unsignedZero_0 : List (List (Nat × Nat)) := [] :: [(2, 155)] :: [] :: [] :: [] :: [] :: []
def bl_X0_unsignedZero : List (Nat × List zE) := [(0, b_X0_unsignedZero_0), (12, b_X0_unsignedZero_12), (13, b_X0_unsignedZero_13)]
def pl_X0_unsignedZero : List (List (List (Nat × Nat))) := [p_X0_unsignedZero_0, p_X0_unsignedZero_12, p_X0_unsignedZero_13]
theorem k_X0_unsignedZero_0 : zlk 0 bl_X0_unsignedZero = b_X0_unsignedZero_0 := rfl
theorem k_X0_unsignedZero_12 : zlk 12 bl_X0_unsignedZero = b_X0_unsignedZero_12 := rfl
theorem k_X0_unsignedZero_13 : zlk 13 bl_X0_unsignedZero = b_X0_unsignedZero_13 := rfl
set_option maxRecDepth 100000 in
theorem ck_X0_unsignedZero : zall q_X0_unsignedZero.2.2.2.2.1 q_X0_unsignedZero.2.1 0 false q_X0_unsignedZero.2.2.1 cal_X0_unsignedZero q_X0_unsignedZero.2.2.2.1 bl_X0_unsignedZero pl_X0_unsignedZero = true := by decide +kernel
theorem nm_X0_unsignedZero : plainName q_X0_unsignedZero.1.cls = true ∧ zRX 0 = q_X0_unsignedZero.1.cls ∧ (false = true → q_X0_unsignedZero.1.name = "<init>") := ⟨by decide +kernel, rfl, fun h => by first | rfl | cases h⟩
set_option maxRecDepth 100000 in
theorem wd_X0_bitLength : zwd q_X0_bitLength := ⟨zw_in (p := (2, 188)) (by decide +kernel), zw_in (p := (1, 12)) (by decide +kernel), fun _ => zw_in (p := (2, 187)) (by decide +kernel), fun h => absurd rfl h, fun h => absurd h (by decide)⟩
def cal_X0_bitLength : List zCal := []
def b_X0_bitLength_59 : List zE := (59, .ireturn, []) :: []
def p_X0_bitLength_59 : List (List (Nat × Nat)) := [] :: []
def b_X0_bitLength_55 : List zE := (55, .iload 4, []) :: (57, .iconst 1, [1]) :: (58, .iadd, []) :: (59, .nop, [0]) :: []
def p_X0_bitLength_55 : List (List (Nat × Nat)) := [] :: [] :: [] :: [] :: []
def b_X0_bitLength_44 : List zE := (44, .lload_n 2, []) :: (45, .lconst 0, [0]) :: (46, .lcmp, []) :: (47, .ifCond .ne 8, [55, 0]) :: (50, .iload 4, []) :: (52, .goto 7, [59, 0]) :: []
def p_X0_bitLength_44 : List (List (Nat × Nat)) := [] :: [] :: [] :: [] :: [] :: [] :: []
def b_X0_bitLength_35 : List zE := (35, .iload 5, []) :: (37, .iconst 1, [1]) :: (38, .ishr, []) :: (39, .istore 5, []) :: (41, .goto (-32), [9, 1]) :: []
def p_X0_bitLength_35 : List (List (Nat × Nat)) := [] :: [] :: [] :: [] :: [] :: []
def b_X0_bitLength_9 : List zE := (9, .iload 5, []) :: (11, .ifCond .le 33, [44, 0]) :: (14, .lload_n 2, []) :: (15, .iload 5, []) :: (17, .lushr, []) :: (18, .lconst 0, [0]) :: (19, .lcmp, []) :: (20, .ifCond .eq 15, [35, 0]) :: (23, .lload_n 2, []) :: (24, .iload 5, []) :: (26, .lushr, []) :: (27, .lstore_n 2, []) :: (28, .iload 4, []) :: (30, .iload 5, []) :: (32, .iadd, []) :: (33, .istore 4, []) :: (35, .nop, [0]) :: []
def p_X0_bitLength_9 : List (List (Nat × Nat)) := [] :: [] :: [] :: [] :: [] :: [] :: [] :: [] :: [] :: [] :: [] :: [] :: [] :: [] :: [] :: [] :: [] :: []
def b_X0_bitLength_0 : List zE := (0, .lload_n 0, []) :: (1, .lstore_n 2, []) :: (2, .iconst 0, [0]) :: (3, .istore 4, []) :: (5, .bipush 32, [32]) :: (7, .istore 5, []) :: (9, .nop, []) :: []
def p_X0_bitLength_0 : List (List (Nat × Nat)) := [] :: [] :: [] :: [] :: [] :: [] :: [] :: []
def bl_X0_bitLength : List (Nat × List zE) := [(0, b_X0_bitLength_0), (9, b_X0_bitLength_9), (35, b_X0_bitLength_35), (44, b_X0_bitLength_44), (55, b_X0_bitLength_55), (59, b_X0_bitLength_59)]
def pl_X0_bitLength : List (List (List (Nat × Nat))) := [p_X0_bitLength_0, p_X0_bitLength_9, p_X0_bitLength_35, p_X0_bitLength_44, p_X0_bitLength_55, p_X0_bitLength_59]
theorem k_X0_bitLength_0 : zlk 0 bl_X0_bitLength = b_X0_bitLength_0 := rfl
theorem k_X0_bitLength_9 : zlk 9 bl_X0_bitLength = b_X0_bitLength_9 := rfl
theorem k_X0_bitLength_35 : zlk 35 bl_X0_bitLength = b_X0_bitLength_35 := rfl
theorem k_X0_bitLength_44 : zlk 44 bl_X0_bitLength = b_X0_bitLength_44 := rfl
theorem k_X0_bitLength_55 : zlk 55 bl_X0_bitLength = b_X0_bitLength_55 := rfl
theorem k_X0_bitLength_59 : zlk 59 bl_X0_bitLength = b_X0_bitLength_59 := rfl
set_option maxRecDepth 100000 in
theorem ck_X0_bitLength : zall q_X0_bitLength.2.2.2.2.1 q_X0_bitLength.2.1 0 false q_X0_bitLength.2.2.1 cal_X0_bitLength q_X0_bitLength.2.2.2.1 bl_X0_bitLength pl_X0_bitLength = true := by decide +kernel
theorem nm_X0_bitLength : plainName q_X0_bitLength.1.cls = true ∧ zRX 0 = q_X0_bitLength.1.cls ∧ (false = true → q_X0_bitLength.1.name = "<init>") := ⟨by decide +kernel, rfl, fun h => by first | rfl | cases h⟩
set_option maxRecDepth 100000 in
theorem wd_X0_lowestBit : zwd q_X0_lowestBit := ⟨zw_in (p := (2, 185)) (by decide +kernel), zw_in (p := (1, 12)) (by decide +kernel), fun _ => zw_in (p := (2, 184)) (by decide +kernel), fun h => absurd rfl h, fun h => absurd h (by decide)⟩
def cal_X0_lowestBit : List zCal := [q_X0_bitLength]
def b_X0_lowestBit_0 : List zE := (0, .lload_n 0, []) :: (1, .lload_n 0, []) :: (2, .lneg, []) :: (3, .land, []) :: (4, .invokestatic 17, [0, 1]) :: (7, .iconst 1, [1]) :: (8, .isub, []) :: (9, .ireturn, []) :: []
def p_X0_lowestBit_0 : List (List (Nat × Nat)) := [] :: [] :: [] :: [] :: [(2, 186)] :: [] :: [] :: [] :: []
def bl_X0_lowestBit : List (Nat × List zE) := [(0, b_X0_lowestBit_0)]
def pl_X0_lowestBit : List (List (List (Nat × Nat))) := [p_X0_lowestBit_0]
theorem k_X0_lowestBit_0 : zlk 0 bl_X0_lowestBit = b_X0_lowestBit_0 := rfl
set_option maxRecDepth 100000 in
theorem ck_X0_lowestBit : zall q_X0_lowestBit.2.2.2.2.1 q_X0_lowestBit.2.1 0 false q_X0_lowestBit.2.2.1 cal_X0_lowestBit q_X0_lowestBit.2.2.2.1 bl_X0_lowestBit pl_X0_lowestBit = true := by decide +kernel
theorem nm_X0_lowestBit : plainName q_X0_lowestBit.1.cls = true ∧ zRX 0 = q_X0_lowestBit.1.cls ∧ (false = true → q_X0_lowestBit.1.name = "<init>") := ⟨by decide +kernel, rfl, fun h => by first | rfl | cases h⟩
set_option maxRecDepth 100000 in
theorem wd_X0_mantissa : zwd q_X0_mantissa := ⟨zw_in (p := (2, 175)) (by decide +kernel), zw_in (p := (1, 12)) (by decide +kernel), fun _ => zw_in (p := (2, 174)) (by decide +kernel), fun h => absurd rfl h, fun h => absurd h (by decide)⟩
def cal_X0_mantissa : List zCal := []
def b_X0_mantissa_25 : List zE := (25, .lreturn, []) :: []
def p_X0_mantissa_25 : List (List (Nat × Nat)) := [] :: []
def b_X0_mantissa_20 : List zE := (20, .lload_n 2, []) :: (21, .ldc2_w 23, [4503599627370496]) :: (24, .lor, []) :: (25, .nop, [0]) :: []
def p_X0_mantissa_20 : List (List (Nat × Nat)) := [] :: [(2, 177)] :: [] :: [] :: []
def b_X0_mantissa_0 : List zE := (0, .lload_n 0, []) :: (1, .ldc2_w 21, [4503599627370495]) :: (4, .land, []) :: (5, .lstore_n 2, []) :: (6, .lload_n 0, []) :: (7, .ldc2_w 11, [9218868437227405312]) :: (10, .land, []) :: (11, .lconst 0, [0]) :: (12, .lcmp, []) :: (13, .ifCond .ne 7, [20, 0]) :: (16, .lload_n 2, []) :: (17, .goto 8, [25, 0]) :: []
def p_X0_mantissa_0 : List (List (Nat × Nat)) := [] :: [(2, 176)] :: [] :: [] :: [] :: [(2, 134)] :: [] :: [] :: [] :: [] :: [] :: [] :: []
def bl_X0_mantissa : List (Nat × List zE) := [(0, b_X0_mantissa_0), (20, b_X0_mantissa_20), (25, b_X0_mantissa_25)]
def pl_X0_mantissa : List (List (List (Nat × Nat))) := [p_X0_mantissa_0, p_X0_mantissa_20, p_X0_mantissa_25]
theorem k_X0_mantissa_0 : zlk 0 bl_X0_mantissa = b_X0_mantissa_0 := rfl
theorem k_X0_mantissa_20 : zlk 20 bl_X0_mantissa = b_X0_mantissa_20 := rfl
theorem k_X0_mantissa_25 : zlk 25 bl_X0_mantissa = b_X0_mantissa_25 := rfl
set_option maxRecDepth 100000 in
theorem ck_X0_mantissa : zall q_X0_mantissa.2.2.2.2.1 q_X0_mantissa.2.1 0 false q_X0_mantissa.2.2.1 cal_X0_mantissa q_X0_mantissa.2.2.2.1 bl_X0_mantissa pl_X0_mantissa = true := by decide +kernel
theorem nm_X0_mantissa : plainName q_X0_mantissa.1.cls = true ∧ zRX 0 = q_X0_mantissa.1.cls ∧ (false = true → q_X0_mantissa.1.name = "<init>") := ⟨by decide +kernel, rfl, fun h => by first | rfl | cases h⟩
set_option maxRecDepth 100000 in
theorem wd_X0_scale : zwd q_X0_scale := ⟨zw_in (p := (2, 182)) (by decide +kernel), zw_in (p := (1, 12)) (by decide +kernel), fun _ => zw_in (p := (2, 181)) (by decide +kernel), fun h => absurd rfl h, fun h => absurd h (by decide)⟩
def cal_X0_scale : List zCal := []
def b_X0_scale_19 : List zE := (19, .sipush 1075, [1075]) :: (22, .isub, []) :: (23, .ireturn, []) :: []
def p_X0_scale_19 : List (List (Nat × Nat)) := [] :: [] :: [] :: []
def b_X0_scale_18 : List zE := (18, .iload_n 2, []) :: (19, .nop, [0]) :: []
def p_X0_scale_18 : List (List (Nat × Nat)) := [] :: [] :: []
def b_X0_scale_0 : List zE := (0, .lload_n 0, []) :: (1, .bipush 52, [52]) :: (3, .lushr, []) :: (4, .l2i, []) :: (5, .sipush 2047, [2047]) :: (8, .iand, []) :: (9, .istore_n 2, []) :: (10, .iload_n 2, []) :: (11, .ifCond .ne 7, [18, 0]) :: (14, .iconst 1, [1]) :: (15, .goto 4, [19, 0]) :: []
def p_X0_scale_0 : List (List (Nat × Nat)) := [] :: [] :: [] :: [] :: [] :: [] :: [] :: [] :: [] :: [] :: [] :: []
def bl_X0_scale : List (Nat × List zE) := [(0, b_X0_scale_0), (18, b_X0_scale_18), (19, b_X0_scale_19)]
def pl_X0_scale : List (List (List (Nat × Nat))) := [p_X0_scale_0, p_X0_scale_18, p_X0_scale_19]
theorem k_X0_scale_0 : zlk 0 bl_X0_scale = b_X0_scale_0 := rfl
theorem k_X0_scale_18 : zlk 18 bl_X0_scale = b_X0_scale_18 := rfl
theorem k_X0_scale_19 : zlk 19 bl_X0_scale = b_X0_scale_19 := rfl
set_option maxRecDepth 100000 in
theorem ck_X0_scale : zall q_X0_scale.2.2.2.2.1 q_X0_scale.2.1 0 false q_X0_scale.2.2.1 cal_X0_scale q_X0_scale.2.2.2.1 bl_X0_scale pl_X0_scale = true := by decide +kernel
theorem nm_X0_scale : plainName q_X0_scale.1.cls = true ∧ zRX 0 = q_X0_scale.1.cls ∧ (false = true → q_X0_scale.1.name = "<init>") := ⟨by decide +kernel, rfl, fun h => by first | rfl | cases h⟩
set_option maxRecDepth 100000 in
theorem wd_X0_fullMantissa : zwd q_X0_fullMantissa := ⟨zw_in (p := (2, 236)) (by decide +kernel), zw_in (p := (1, 12)) (by decide +kernel), fun _ => zw_in (p := (2, 235)) (by decide +kernel), fun h => absurd rfl h, fun h => absurd h (by decide)⟩
def cal_X0_fullMantissa : List zCal := [q_X0_mantissa, q_X0_bitLength]
def b_X0_fullMantissa_24 : List zE := (24, .lreturn, []) :: []
def p_X0_fullMantissa_24 : List (List (Nat × Nat)) := [] :: []
def b_X0_fullMantissa_15 : List zE := (15, .lload_n 2, []) :: (16, .bipush 53, [53]) :: (18, .lload_n 2, []) :: (19, .invokestatic 17, [1, 1]) :: (22, .isub, []) :: (23, .lshl, []) :: (24, .nop, [0]) :: []
def p_X0_fullMantissa_15 : List (List (Nat × Nat)) := [] :: [] :: [] :: [(2, 186)] :: [] :: [] :: [] :: []
def b_X0_fullMantissa_0 : List zE := (0, .lload_n 0, []) :: (1, .invokestatic 25, [0, 1]) :: (4, .lstore_n 2, []) :: (5, .lload_n 2, []) :: (6, .lconst 0, [0]) :: (7, .lcmp, []) :: (8, .ifCond .ne 7, [15, 0]) :: (11, .lconst 0, [0]) :: (12, .goto 12, [24, 0]) :: []
def p_X0_fullMantissa_0 : List (List (Nat × Nat)) := [] :: [(2, 173)] :: [] :: [] :: [] :: [] :: [] :: [] :: [] :: []
def bl_X0_fullMantissa : List (Nat × List zE) := [(0, b_X0_fullMantissa_0), (15, b_X0_fullMantissa_15), (24, b_X0_fullMantissa_24)]
def pl_X0_fullMantissa : List (List (List (Nat × Nat))) := [p_X0_fullMantissa_0, p_X0_fullMantissa_15, p_X0_fullMantissa_24]
theorem k_X0_fullMantissa_0 : zlk 0 bl_X0_fullMantissa = b_X0_fullMantissa_0 := rfl
theorem k_X0_fullMantissa_15 : zlk 15 bl_X0_fullMantissa = b_X0_fullMantissa_15 := rfl
theorem k_X0_fullMantissa_24 : zlk 24 bl_X0_fullMantissa = b_X0_fullMantissa_24 := rfl
set_option maxRecDepth 100000 in
theorem ck_X0_fullMantissa : zall q_X0_fullMantissa.2.2.2.2.1 q_X0_fullMantissa.2.1 0 false q_X0_fullMantissa.2.2.1 cal_X0_fullMantissa q_X0_fullMantissa.2.2.2.1 bl_X0_fullMantissa pl_X0_fullMantissa = true := by decide +kernel
theorem nm_X0_fullMantissa : plainName q_X0_fullMantissa.1.cls = true ∧ zRX 0 = q_X0_fullMantissa.1.cls ∧ (false = true → q_X0_fullMantissa.1.name = "<init>") := ⟨by decide +kernel, rfl, fun h => by first | rfl | cases h⟩
set_option maxRecDepth 100000 in
theorem wd_X0_fullScale : zwd q_X0_fullScale := ⟨zw_in (p := (3, 3)) (by decide +kernel), zw_in (p := (1, 12)) (by decide +kernel), fun _ => zw_in (p := (3, 2)) (by decide +kernel), fun h => absurd rfl h, fun h => absurd h (by decide)⟩
def cal_X0_fullScale : List zCal := [q_X0_scale, q_X0_mantissa, q_X0_bitLength]
def b_X0_fullScale_0 : List zE := (0, .lload_n 0, []) :: (1, .invokestatic 29, [0, 1]) :: (4, .bipush 53, [53]) :: (6, .lload_n 0, []) :: (7, .invokestatic 25, [1, 1]) :: (10, .invokestatic 17, [2, 1]) :: (13, .isub, []) :: (14, .isub, []) :: (15, .ireturn, []) :: []
def p_X0_fullScale_0 : List (List (Nat × Nat)) := [] :: [(2, 180)] :: [] :: [] :: [(2, 173)] :: [(2, 186)] :: [] :: [] :: [] :: []
def bl_X0_fullScale : List (Nat × List zE) := [(0, b_X0_fullScale_0)]
def pl_X0_fullScale : List (List (List (Nat × Nat))) := [p_X0_fullScale_0]
theorem k_X0_fullScale_0 : zlk 0 bl_X0_fullScale = b_X0_fullScale_0 := rfl
set_option maxRecDepth 100000 in
theorem ck_X0_fullScale : zall q_X0_fullScale.2.2.2.2.1 q_X0_fullScale.2.1 0 false q_X0_fullScale.2.2.1 cal_X0_fullScale q_X0_fullScale.2.2.2.1 bl_X0_fullScale pl_X0_fullScale = true := by decide +kernel
theorem nm_X0_fullScale : plainName q_X0_fullScale.1.cls = true ∧ zRX 0 = q_X0_fullScale.1.cls ∧ (false = true → q_X0_fullScale.1.name = "<init>") := ⟨by decide +kernel, rfl, fun h => by first | rfl | cases h⟩
set_option maxRecDepth 100000 in
theorem wd_X0_isLatticeNumber : zwd q_X0_isLatticeNumber := ⟨zw_in (p := (2, 172)) (by decide +kernel), zw_in (p := (1, 12)) (by decide +kernel), fun _ => zw_in (p := (2, 171)) (by decide +kernel), fun h => absurd rfl h, fun h => absurd h (by decide)⟩
def cal_X0_isLatticeNumber : List zCal := [q_X0_mantissa, q_X0_magnitude, q_X0_scale, q_X0_lowestBit]
def b_X0_isLatticeNumber_56 : List zE := (56, .ireturn, []) :: []
def p_X0_isLatticeNumber_56 : List (List (Nat × Nat)) := [] :: []
def b_X0_isLatticeNumber_55 : List zE := (55, .iconst 0, [0]) :: (56, .nop, [0]) :: []
def p_X0_isLatticeNumber_55 : List (List (Nat × Nat)) := [] :: [] :: []
def b_X0_isLatticeNumber_26 : List zE := (26, .lload_n 0, []) :: (27, .invokestatic 32, [1, 1]) :: (30, .ldc2_w 35, [4787326403894837248]) :: (33, .lcmp, []) :: (34, .ifCond .gt 21, [55, 0]) :: (37, .lload_n 0, []) :: (38, .invokestatic 29, [2, 1]) :: (41, .lload_n 2, []) :: (42, .invokestatic 37, [3, 1]) :: (45, .iadd, []) :: (46, .bipush (-60), [4294967236]) :: (48, .if_icmp .lt 7, [55, 0]) :: (51, .iconst 1, [1]) :: (52, .goto 4, [56, 0]) :: []
def p_X0_isLatticeNumber_26 : List (List (Nat × Nat)) := [] :: [(2, 178)] :: [(2, 179)] :: [] :: [] :: [] :: [(2, 180)] :: [] :: [(2, 183)] :: [] :: [] :: [] :: [] :: [] :: []
def b_X0_isLatticeNumber_25 : List zE := (25, .ireturn, []) :: []
def p_X0_isLatticeNumber_25 : List (List (Nat × Nat)) := [] :: []
def b_X0_isLatticeNumber_24 : List zE := (24, .iconst 0, [0]) :: (25, .nop, [0]) :: []
def p_X0_isLatticeNumber_24 : List (List (Nat × Nat)) := [] :: [] :: []
def b_X0_isLatticeNumber_0 : List zE := (0, .lload_n 0, []) :: (1, .invokestatic 25, [0, 1]) :: (4, .lstore_n 2, []) :: (5, .lload_n 2, []) :: (6, .lconst 0, [0]) :: (7, .lcmp, []) :: (8, .ifCond .ne 18, [26, 0]) :: (11, .lload_n 0, []) :: (12, .invokestatic 32, [1, 1]) :: (15, .lconst 0, [0]) :: (16, .lcmp, []) :: (17, .ifCond .ne 7, [24, 0]) :: (20, .iconst 1, [1]) :: (21, .goto 4, [25, 0]) :: []
def p_X0_isLatticeNumber_0 : List (List (Nat × Nat)) := [] :: [(2, 173)] :: [] :: [] :: [] :: [] :: [] :: [] :: [(2, 178)] :: [] :: [] :: [] :: [] :: [] :: []
def bl_X0_isLatticeNumber : List (Nat × List zE) := [(0, b_X0_isLatticeNumber_0), (24, b_X0_isLatticeNumber_24), (25, b_X0_isLatticeNumber_25), (26, b_X0_isLatticeNumber_26), (55, b_X0_isLatticeNumber_55), (56, b_X0_isLatticeNumber_56)]
def pl_X0_isLatticeNumber : List (List (List (Nat × Nat))) := [p_X0_isLatticeNumber_0, p_X0_isLatticeNumber_24, p_X0_isLatticeNumber_25, p_X0_isLatticeNumber_26, p_X0_isLatticeNumber_55, p_X0_isLatticeNumber_56]
theorem k_X0_isLatticeNumber_0 : zlk 0 bl_X0_isLatticeNumber = b_X0_isLatticeNumber_0 := rfl
theorem k_X0_isLatticeNumber_24 : zlk 24 bl_X0_isLatticeNumber = b_X0_isLatticeNumber_24 := rfl
theorem k_X0_isLatticeNumber_25 : zlk 25 bl_X0_isLatticeNumber = b_X0_isLatticeNumber_25 := rfl
theorem k_X0_isLatticeNumber_26 : zlk 26 bl_X0_isLatticeNumber = b_X0_isLatticeNumber_26 := rfl
theorem k_X0_isLatticeNumber_55 : zlk 55 bl_X0_isLatticeNumber = b_X0_isLatticeNumber_55 := rfl
theorem k_X0_isLatticeNumber_56 : zlk 56 bl_X0_isLatticeNumber = b_X0_isLatticeNumber_56 := rfl
set_option maxRecDepth 100000 in
theorem ck_X0_isLatticeNumber : zall q_X0_isLatticeNumber.2.2.2.2.1 q_X0_isLatticeNumber.2.1 0 false q_X0_isLatticeNumber.2.2.1 cal_X0_isLatticeNumber q_X0_isLatticeNumber.2.2.2.1 bl_X0_isLatticeNumber pl_X0_isLatticeNumber = true := by decide +kernel
theorem nm_X0_isLatticeNumber : plainName q_X0_isLatticeNumber.1.cls = true ∧ zRX 0 = q_X0_isLatticeNumber.1.cls ∧ (false = true → q_X0_isLatticeNumber.1.name = "<init>") := ⟨by decide +kernel, rfl, fun h => by first | rfl | cases h⟩
set_option maxRecDepth 100000 in
theorem wd_X0_above : zwd q_X0_above := ⟨zw_in (p := (5, 71)) (by decide +kernel), zw_in (p := (1, 12)) (by decide +kernel), fun _ => zw_in (p := (5, 70)) (by decide +kernel), fun h => absurd rfl h, fun h => absurd h (by decide)⟩
def cal_X0_above : List zCal := [q_X0_finite]
def b_X0_above_14 : List zE := (14, .lreturn, []) :: []
def p_X0_above_14 : List (List (Nat × Nat)) := [] :: []
def b_X0_above_13 : List zE := (13, .lload_n 0, []) :: (14, .nop, [0]) :: []
def p_X0_above_13 : List (List (Nat × Nat)) := [] :: [] :: []
def b_X0_above_0 : List zE := (0, .lload_n 0, []) :: (1, .invokestatic 40, [0, 1]) :: (4, .ifCond .eq 9, [13, 0]) :: (7, .lload_n 0, []) :: (8, .lconst 1, [1]) :: (9, .ladd, []) :: (10, .goto 4, [14, 0]) :: []
def p_X0_above_0 : List (List (Nat × Nat)) := [] :: [(3, 14)] :: [] :: [] :: [] :: [] :: [] :: []
def bl_X0_above : List (Nat × List zE) := [(0, b_X0_above_0), (13, b_X0_above_13), (14, b_X0_above_14)]
def pl_X0_above : List (List (List (Nat × Nat))) := [p_X0_above_0, p_X0_above_13, p_X0_above_14]
theorem k_X0_above_0 : zlk 0 bl_X0_above = b_X0_above_0 := rfl
theorem k_X0_above_13 : zlk 13 bl_X0_above = b_X0_above_13 := rfl
theorem k_X0_above_14 : zlk 14 bl_X0_above = b_X0_above_14 := rfl
set_option maxRecDepth 100000 in
theorem ck_X0_above : zall q_X0_above.2.2.2.2.1 q_X0_above.2.1 0 false q_X0_above.2.2.1 cal_X0_above q_X0_above.2.2.2.1 bl_X0_above pl_X0_above = true := by decide +kernel
theorem nm_X0_above : plainName q_X0_above.1.cls = true ∧ zRX 0 = q_X0_above.1.cls ∧ (false = true → q_X0_above.1.name = "<init>") := ⟨by decide +kernel, rfl, fun h => by first | rfl | cases h⟩
set_option maxRecDepth 100000 in
theorem wd_X0_rounded : zwd q_X0_rounded := ⟨zw_in (p := (2, 216)) (by decide +kernel), zw_in (p := (1, 12)) (by decide +kernel), fun _ => zw_in (p := (2, 215)) (by decide +kernel), fun h => absurd rfl h, fun h => absurd h (by decide)⟩
def cal_X0_rounded : List zCal := [q_X0_bitLength]
def b_X0_rounded_255 : List zE := (255, .i2l, []) :: (256, .ladd, []) :: (257, .lor, []) :: (258, .lreturn, []) :: []
def p_X0_rounded_255 : List (List (Nat × Nat)) := [] :: [] :: [] :: [] :: []
def b_X0_rounded_254 : List zE := (254, .iconst 0, [0]) :: (255, .nop, [0]) :: []
def p_X0_rounded_254 : List (List (Nat × Nat)) := [] :: [] :: []
def b_X0_rounded_230 : List zE := (230, .lload 6, []) :: (232, .iload 9, []) :: (234, .sipush 1074, [1074]) :: (237, .iadd, []) :: (238, .i2l, []) :: (239, .bipush 52, [52]) :: (241, .lshl, []) :: (242, .lload 11, []) :: (244, .ladd, []) :: (245, .iload 13, []) :: (247, .ifCond .eq 7, [254, 0]) :: (250, .iconst 1, [1]) :: (251, .goto 4, [255, 0]) :: []
def p_X0_rounded_230 : List (List (Nat × Nat)) := [] :: [] :: [] :: [] :: [] :: [] :: [] :: [] :: [] :: [] :: [] :: [] :: [] :: []
def b_X0_rounded_228 : List zE := (228, .istore 13, []) :: (230, .nop, [0]) :: []
def p_X0_rounded_228 : List (List (Nat × Nat)) := [] :: [] :: []
def b_X0_rounded_227 : List zE := (227, .iconst 0, [0]) :: (228, .nop, [0]) :: []
def p_X0_rounded_227 : List (List (Nat × Nat)) := [] :: [] :: []
def b_X0_rounded_223 : List zE := (223, .iconst 1, [1]) :: (224, .goto 4, [228, 0]) :: []
def p_X0_rounded_223 : List (List (Nat × Nat)) := [] :: [] :: []
def b_X0_rounded_210 : List zE := (210, .lload 14, []) :: (212, .lload 16, []) :: (214, .lcmp, []) :: (215, .ifCond .gt 8, [223, 0]) :: (218, .iload 18, []) :: (220, .ifCond .eq 7, [227, 0]) :: (223, .nop, [0]) :: []
def p_X0_rounded_210 : List (List (Nat × Nat)) := [] :: [] :: [] :: [] :: [] :: [] :: [] :: []
def b_X0_rounded_206 : List zE := (206, .iconst 0, [0]) :: (207, .goto 21, [228, 0]) :: []
def p_X0_rounded_206 : List (List (Nat × Nat)) := [] :: [] :: []
def b_X0_rounded_202 : List zE := (202, .iconst 1, [1]) :: (203, .goto 25, [228, 0]) :: []
def p_X0_rounded_202 : List (List (Nat × Nat)) := [] :: [] :: []
def b_X0_rounded_184 : List zE := (184, .istore 18, []) :: (186, .iload 5, []) :: (188, .ifCond .eq 22, [210, 0]) :: (191, .iload_n 3, []) :: (192, .ifCond .ne 10, [202, 0]) :: (195, .lload 14, []) :: (197, .lconst 0, [0]) :: (198, .lcmp, []) :: (199, .ifCond .eq 7, [206, 0]) :: (202, .nop, [0]) :: []
def p_X0_rounded_184 : List (List (Nat × Nat)) := [] :: [] :: [] :: [] :: [] :: [] :: [] :: [] :: [] :: [] :: []
def b_X0_rounded_183 : List zE := (183, .iconst 0, [0]) :: (184, .nop, [0]) :: []
def p_X0_rounded_183 : List (List (Nat × Nat)) := [] :: [] :: []
def b_X0_rounded_179 : List zE := (179, .iconst 1, [1]) :: (180, .goto 4, [184, 0]) :: []
def p_X0_rounded_179 : List (List (Nat × Nat)) := [] :: [] :: []
def b_X0_rounded_136 : List zE := (136, .iload 10, []) :: (138, .ifCond .le 92, [230, 0]) :: (141, .lload_n 1, []) :: (142, .lload 11, []) :: (144, .iload 10, []) :: (146, .lshl, []) :: (147, .lsub, []) :: (148, .lstore 14, []) :: (150, .lconst 1, [1]) :: (151, .iload 10, []) :: (153, .iconst 1, [1]) :: (154, .isub, []) :: (155, .lshl, []) :: (156, .lstore 16, []) :: (158, .lload 14, []) :: (160, .lload 16, []) :: (162, .lcmp, []) :: (163, .ifCond .ne 20, [183, 0]) :: (166, .iload_n 3, []) :: (167, .ifCond .ne 12, [179, 0]) :: (170, .lload 11, []) :: (172, .lconst 1, [1]) :: (173, .land, []) :: (174, .lconst 0, [0]) :: (175, .lcmp, []) :: (176, .ifCond .eq 7, [183, 0]) :: (179, .nop, [0]) :: []
def p_X0_rounded_136 : List (List (Nat × Nat)) := [] :: [] :: [] :: [] :: [] :: [] :: [] :: [] :: [] :: [] :: [] :: [] :: [] :: [] :: [] :: [] :: [] :: [] :: [] :: [] :: [] :: [] :: [] :: [] :: [] :: [] :: [] :: []
def b_X0_rounded_120 : List zE := (120, .istore 13, []) :: (122, .iload 10, []) :: (124, .bipush 63, [63]) :: (126, .if_icmp .le 10, [136, 0]) :: (129, .iload 5, []) :: (131, .istore 13, []) :: (133, .goto 97, [230, 0]) :: []
def p_X0_rounded_120 : List (List (Nat × Nat)) := [] :: [] :: [] :: [] :: [] :: [] :: [] :: []
def b_X0_rounded_119 : List zE := (119, .iconst 0, [0]) :: (120, .nop, [0]) :: []
def p_X0_rounded_119 : List (List (Nat × Nat)) := [] :: [] :: []
def b_X0_rounded_104 : List zE := (104, .lstore 11, []) :: (106, .iload 5, []) :: (108, .ifCond .eq 11, [119, 0]) :: (111, .iload_n 3, []) :: (112, .ifCond .eq 7, [119, 0]) :: (115, .iconst 1, [1]) :: (116, .goto 4, [120, 0]) :: []
def p_X0_rounded_104 : List (List (Nat × Nat)) := [] :: [] :: [] :: [] :: [] :: [] :: [] :: []
def b_X0_rounded_99 : List zE := (99, .lload_n 1, []) :: (100, .iload 10, []) :: (102, .ineg, []) :: (103, .lshl, []) :: (104, .nop, [0]) :: []
def p_X0_rounded_99 : List (List (Nat × Nat)) := [] :: [] :: [] :: [] :: [] :: []
def b_X0_rounded_87 : List zE := (87, .iload 10, []) :: (89, .ifCond .le 10, [99, 0]) :: (92, .lload_n 1, []) :: (93, .iload 10, []) :: (95, .lushr, []) :: (96, .goto 8, [104, 0]) :: []
def p_X0_rounded_87 : List (List (Nat × Nat)) := [] :: [] :: [] :: [] :: [] :: [] :: []
def b_X0_rounded_67 : List zE := (67, .istore 9, []) :: (69, .iload 9, []) :: (71, .iload 4, []) :: (73, .isub, []) :: (74, .istore 10, []) :: (76, .iload 10, []) :: (78, .bipush 63, [63]) :: (80, .if_icmp .le 7, [87, 0]) :: (83, .lconst 0, [0]) :: (84, .goto 20, [104, 0]) :: []
def p_X0_rounded_67 : List (List (Nat × Nat)) := [] :: [] :: [] :: [] :: [] :: [] :: [] :: [] :: [] :: [] :: []
def b_X0_rounded_62 : List zE := (62, .iload 8, []) :: (64, .bipush 52, [52]) :: (66, .isub, []) :: (67, .nop, [0]) :: []
def p_X0_rounded_62 : List (List (Nat × Nat)) := [] :: [] :: [] :: [] :: []
def b_X0_rounded_48 : List zE := (48, .iload 8, []) :: (50, .sipush (-1022), [4294966274]) :: (53, .if_icmp .ge 9, [62, 0]) :: (56, .sipush (-1074), [4294966222]) :: (59, .goto 8, [67, 0]) :: []
def p_X0_rounded_48 : List (List (Nat × Nat)) := [] :: [] :: [] :: [] :: [] :: []
def b_X0_rounded_22 : List zE := (22, .iload 4, []) :: (24, .lload_n 1, []) :: (25, .invokestatic 17, [0, 1]) :: (28, .iadd, []) :: (29, .iconst 1, [1]) :: (30, .isub, []) :: (31, .istore 8, []) :: (33, .iload 8, []) :: (35, .sipush 1023, [1023]) :: (38, .if_icmp .le 10, [48, 0]) :: (41, .lload 6, []) :: (43, .ldc2_w 11, [9218868437227405312]) :: (46, .lor, []) :: (47, .lreturn, []) :: []
def p_X0_rounded_22 : List (List (Nat × Nat)) := [] :: [] :: [(2, 186)] :: [] :: [] :: [] :: [] :: [] :: [] :: [] :: [] :: [(2, 134)] :: [] :: [] :: []
def b_X0_rounded_11 : List zE := (11, .lstore 6, []) :: (13, .lload_n 1, []) :: (14, .lconst 0, [0]) :: (15, .lcmp, []) :: (16, .ifCond .gt 6, [22, 0]) :: (19, .lload 6, []) :: (21, .lreturn, []) :: []
def p_X0_rounded_11 : List (List (Nat × Nat)) := [] :: [] :: [] :: [] :: [] :: [] :: [] :: []
def b_X0_rounded_10 : List zE := (10, .lconst 0, [0]) :: (11, .nop, [0]) :: []
def p_X0_rounded_10 : List (List (Nat × Nat)) := [] :: [] :: []
def b_X0_rounded_0 : List zE := (0, .iload_n 0, []) :: (1, .ifCond .eq 9, [10, 0]) :: (4, .ldc2_w 15, [9223372036854775808]) :: (7, .goto 4, [11, 0]) :: []
def p_X0_rounded_0 : List (List (Nat × Nat)) := [] :: [] :: [(2, 155)] :: [] :: []
def bl_X0_rounded : List (Nat × List zE) := [(0, b_X0_rounded_0), (10, b_X0_rounded_10), (11, b_X0_rounded_11), (22, b_X0_rounded_22), (48, b_X0_rounded_48), (62, b_X0_rounded_62), (67, b_X0_rounded_67), (87, b_X0_rounded_87), (99, b_X0_rounded_99), (104, b_X0_rounded_104), (119, b_X0_rounded_119), (120, b_X0_rounded_120), (136, b_X0_rounded_136), (179, b_X0_rounded_179), (183, b_X0_rounded_183), (184, b_X0_rounded_184), (202, b_X0_rounded_202), (206, b_X0_rounded_206), (210, b_X0_rounded_210), (223, b_X0_rounded_223), (227, b_X0_rounded_227), (228, b_X0_rounded_228), (230, b_X0_rounded_230), (254, b_X0_rounded_254), (255, b_X0_rounded_255)]
def pl_X0_rounded : List (List (List (Nat × Nat))) := [p_X0_rounded_0, p_X0_rounded_10, p_X0_rounded_11, p_X0_rounded_22, p_X0_rounded_48, p_X0_rounded_62, p_X0_rounded_67, p_X0_rounded_87, p_X0_rounded_99, p_X0_rounded_104, p_X0_rounded_119, p_X0_rounded_120, p_X0_rounded_136, p_X0_rounded_179, p_X0_rounded_183, p_X0_rounded_184, p_X0_rounded_202, p_X0_rounded_206, p_X0_rounded_210, p_X0_rounded_223, p_X0_rounded_227, p_X0_rounded_228, p_X0_rounded_230, p_X0_rounded_254, p_X0_rounded_255]
theorem k_X0_rounded_0 : zlk 0 bl_X0_rounded = b_X0_rounded_0 := rfl
theorem k_X0_rounded_10 : zlk 10 bl_X0_rounded = b_X0_rounded_10 := rfl
theorem k_X0_rounded_11 : zlk 11 bl_X0_rounded = b_X0_rounded_11 := rfl
theorem k_X0_rounded_22 : zlk 22 bl_X0_rounded = b_X0_rounded_22 := rfl
theorem k_X0_rounded_48 : zlk 48 bl_X0_rounded = b_X0_rounded_48 := rfl
theorem k_X0_rounded_62 : zlk 62 bl_X0_rounded = b_X0_rounded_62 := rfl
theorem k_X0_rounded_67 : zlk 67 bl_X0_rounded = b_X0_rounded_67 := rfl
theorem k_X0_rounded_87 : zlk 87 bl_X0_rounded = b_X0_rounded_87 := rfl
theorem k_X0_rounded_99 : zlk 99 bl_X0_rounded = b_X0_rounded_99 := rfl
theorem k_X0_rounded_104 : zlk 104 bl_X0_rounded = b_X0_rounded_104 := rfl
theorem k_X0_rounded_119 : zlk 119 bl_X0_rounded = b_X0_rounded_119 := rfl
theorem k_X0_rounded_120 : zlk 120 bl_X0_rounded = b_X0_rounded_120 := rfl
theorem k_X0_rounded_136 : zlk 136 bl_X0_rounded = b_X0_rounded_136 := rfl
theorem k_X0_rounded_179 : zlk 179 bl_X0_rounded = b_X0_rounded_179 := rfl
theorem k_X0_rounded_183 : zlk 183 bl_X0_rounded = b_X0_rounded_183 := rfl
theorem k_X0_rounded_184 : zlk 184 bl_X0_rounded = b_X0_rounded_184 := rfl
theorem k_X0_rounded_202 : zlk 202 bl_X0_rounded = b_X0_rounded_202 := rfl
theorem k_X0_rounded_206 : zlk 206 bl_X0_rounded = b_X0_rounded_206 := rfl
theorem k_X0_rounded_210 : zlk 210 bl_X0_rounded = b_X0_rounded_210 := rfl
theorem k_X0_rounded_223 : zlk 223 bl_X0_rounded = b_X0_rounded_223 := rfl
theorem k_X0_rounded_227 : zlk 227 bl_X0_rounded = b_X0_rounded_227 := rfl
theorem k_X0_rounded_228 : zlk 228 bl_X0_rounded = b_X0_rounded_228 := rfl
theorem k_X0_rounded_230 : zlk 230 bl_X0_rounded = b_X0_rounded_230 := rfl
theorem k_X0_rounded_254 : zlk 254 bl_X0_rounded = b_X0_rounded_254 := rfl
theorem k_X0_rounded_255 : zlk 255 bl_X0_rounded = b_X0_rounded_255 := rfl
set_option maxRecDepth 100000 in
theorem ck_X0_rounded : zall q_X0_rounded.2.2.2.2.1 q_X0_rounded.2.1 0 false q_X0_rounded.2.2.1 cal_X0_rounded q_X0_rounded.2.2.2.1 bl_X0_rounded pl_X0_rounded = true := by decide +kernel
theorem nm_X0_rounded : plainName q_X0_rounded.1.cls = true ∧ zRX 0 = q_X0_rounded.1.cls ∧ (false = true → q_X0_rounded.1.name = "<init>") := ⟨by decide +kernel, rfl, fun h => by first | rfl | cases h⟩
set_option maxRecDepth 100000 in
theorem wd_X0_plus : zwd q_X0_plus := ⟨zw_in (p := (2, 213)) (by decide +kernel), zw_in (p := (1, 12)) (by decide +kernel), fun _ => zw_in (p := (2, 212)) (by decide +kernel), fun h => absurd rfl h, fun h => absurd h (by decide)⟩
def cal_X0_plus : List zCal := [q_X0_magnitude, q_X0_scale, q_X0_mantissa, q_X0_rounded]
def b_X0_plus_225 : List zE := (225, .lreturn, []) :: []
def p_X0_plus_225 : List (List (Nat × Nat)) := [] :: []
def b_X0_plus_209 : List zE := (209, .lload 17, []) :: (211, .iload 16, []) :: (213, .lload 5, []) :: (215, .invokestatic 29, [1, 1]) :: (218, .bipush 9, [9]) :: (220, .isub, []) :: (221, .iconst 0, [0]) :: (222, .invokestatic 44, [3, 5]) :: (225, .nop, [0]) :: []
def p_X0_plus_209 : List (List (Nat × Nat)) := [] :: [] :: [] :: [(2, 180)] :: [] :: [] :: [] :: [(2, 214)] :: [] :: []
def b_X0_plus_208 : List zE := (208, .iconst 0, [0]) :: (209, .nop, [0]) :: []
def p_X0_plus_208 : List (List (Nat × Nat)) := [] :: [] :: []
def b_X0_plus_197 : List zE := (197, .lload 5, []) :: (199, .lconst 0, [0]) :: (200, .lcmp, []) :: (201, .ifCond .ge 7, [208, 0]) :: (204, .iconst 1, [1]) :: (205, .goto 4, [209, 0]) :: []
def p_X0_plus_197 : List (List (Nat × Nat)) := [] :: [] :: [] :: [] :: [] :: [] :: []
def b_X0_plus_184 : List zE := (184, .lstore 17, []) :: (186, .lload 17, []) :: (188, .lconst 0, [0]) :: (189, .lcmp, []) :: (190, .ifCond .ne 7, [197, 0]) :: (193, .lconst 0, [0]) :: (194, .goto 31, [225, 0]) :: []
def p_X0_plus_184 : List (List (Nat × Nat)) := [] :: [] :: [] :: [] :: [] :: [] :: [] :: []
def b_X0_plus_179 : List zE := (179, .lload 10, []) :: (181, .lload 14, []) :: (183, .lsub, []) :: (184, .nop, [0]) :: []
def p_X0_plus_179 : List (List (Nat × Nat)) := [] :: [] :: [] :: [] :: []
def b_X0_plus_164 : List zE := (164, .iload 16, []) :: (166, .ifCond .eq 13, [179, 0]) :: (169, .lload 10, []) :: (171, .lload 14, []) :: (173, .lsub, []) :: (174, .lconst 1, [1]) :: (175, .lsub, []) :: (176, .goto 8, [184, 0]) :: []
def p_X0_plus_164 : List (List (Nat × Nat)) := [] :: [] :: [] :: [] :: [] :: [] :: [] :: [] :: []
def b_X0_plus_146 : List zE := (146, .istore 16, []) :: (148, .lload_n 0, []) :: (149, .lload_n 2, []) :: (150, .lxor, []) :: (151, .lconst 0, [0]) :: (152, .lcmp, []) :: (153, .ifCond .lt 11, [164, 0]) :: (156, .lload 10, []) :: (158, .lload 14, []) :: (160, .ladd, []) :: (161, .goto 23, [184, 0]) :: []
def p_X0_plus_146 : List (List (Nat × Nat)) := [] :: [] :: [] :: [] :: [] :: [] :: [] :: [] :: [] :: [] :: [] :: []
def b_X0_plus_145 : List zE := (145, .iconst 0, [0]) :: (146, .nop, [0]) :: []
def p_X0_plus_145 : List (List (Nat × Nat)) := [] :: [] :: []
def b_X0_plus_130 : List zE := (130, .lload 14, []) :: (132, .iload 9, []) :: (134, .lshl, []) :: (135, .lload 12, []) :: (137, .lcmp, []) :: (138, .ifCond .eq 7, [145, 0]) :: (141, .iconst 1, [1]) :: (142, .goto 4, [146, 0]) :: []
def p_X0_plus_130 : List (List (Nat × Nat)) := [] :: [] :: [] :: [] :: [] :: [] :: [] :: [] :: []
def b_X0_plus_126 : List zE := (126, .iconst 0, [0]) :: (127, .goto 19, [146, 0]) :: []
def p_X0_plus_126 : List (List (Nat × Nat)) := [] :: [] :: []
def b_X0_plus_106 : List zE := (106, .lstore 14, []) :: (108, .iload 9, []) :: (110, .bipush 62, [62]) :: (112, .if_icmp .le 18, [130, 0]) :: (115, .lload 12, []) :: (117, .lconst 0, [0]) :: (118, .lcmp, []) :: (119, .ifCond .eq 7, [126, 0]) :: (122, .iconst 1, [1]) :: (123, .goto 23, [146, 0]) :: []
def p_X0_plus_106 : List (List (Nat × Nat)) := [] :: [] :: [] :: [] :: [] :: [] :: [] :: [] :: [] :: [] :: []
def b_X0_plus_101 : List zE := (101, .lload 12, []) :: (103, .iload 9, []) :: (105, .lushr, []) :: (106, .nop, [0]) :: []
def p_X0_plus_101 : List (List (Nat × Nat)) := [] :: [] :: [] :: [] :: []
def b_X0_plus_57 : List zE := (57, .lload 5, []) :: (59, .invokestatic 29, [1, 1]) :: (62, .lload 7, []) :: (64, .invokestatic 29, [1, 1]) :: (67, .isub, []) :: (68, .istore 9, []) :: (70, .lload 5, []) :: (72, .invokestatic 25, [2, 1]) :: (75, .bipush 9, [9]) :: (77, .lshl, []) :: (78, .lstore 10, []) :: (80, .lload 7, []) :: (82, .invokestatic 25, [2, 1]) :: (85, .bipush 9, [9]) :: (87, .lshl, []) :: (88, .lstore 12, []) :: (90, .iload 9, []) :: (92, .bipush 62, [62]) :: (94, .if_icmp .le 7, [101, 0]) :: (97, .lconst 0, [0]) :: (98, .goto 8, [106, 0]) :: []
def p_X0_plus_57 : List (List (Nat × Nat)) := [] :: [(2, 180)] :: [] :: [(2, 180)] :: [] :: [] :: [] :: [(2, 173)] :: [] :: [] :: [] :: [] :: [(2, 173)] :: [] :: [] :: [] :: [] :: [] :: [] :: [] :: [] :: []
def b_X0_plus_41 : List zE := (41, .lstore 7, []) :: (43, .lload 5, []) :: (45, .invokestatic 32, [0, 1]) :: (48, .lconst 0, [0]) :: (49, .lcmp, []) :: (50, .ifCond .ne 7, [57, 0]) :: (53, .lload_n 0, []) :: (54, .lload_n 2, []) :: (55, .land, []) :: (56, .lreturn, []) :: []
def p_X0_plus_41 : List (List (Nat × Nat)) := [] :: [] :: [(2, 178)] :: [] :: [] :: [] :: [] :: [] :: [] :: [] :: []
def b_X0_plus_40 : List zE := (40, .lload_n 2, []) :: (41, .nop, [0]) :: []
def p_X0_plus_40 : List (List (Nat × Nat)) := [] :: [] :: []
def b_X0_plus_29 : List zE := (29, .lstore 5, []) :: (31, .iload 4, []) :: (33, .ifCond .eq 7, [40, 0]) :: (36, .lload_n 0, []) :: (37, .goto 4, [41, 0]) :: []
def p_X0_plus_29 : List (List (Nat × Nat)) := [] :: [] :: [] :: [] :: [] :: []
def b_X0_plus_28 : List zE := (28, .lload_n 0, []) :: (29, .nop, [0]) :: []
def p_X0_plus_28 : List (List (Nat × Nat)) := [] :: [] :: []
def b_X0_plus_17 : List zE := (17, .istore 4, []) :: (19, .iload 4, []) :: (21, .ifCond .eq 7, [28, 0]) :: (24, .lload_n 2, []) :: (25, .goto 4, [29, 0]) :: []
def p_X0_plus_17 : List (List (Nat × Nat)) := [] :: [] :: [] :: [] :: [] :: []
def b_X0_plus_16 : List zE := (16, .iconst 0, [0]) :: (17, .nop, [0]) :: []
def p_X0_plus_16 : List (List (Nat × Nat)) := [] :: [] :: []
def b_X0_plus_0 : List zE := (0, .lload_n 0, []) :: (1, .invokestatic 32, [0, 1]) :: (4, .lload_n 2, []) :: (5, .invokestatic 32, [0, 1]) :: (8, .lcmp, []) :: (9, .ifCond .ge 7, [16, 0]) :: (12, .iconst 1, [1]) :: (13, .goto 4, [17, 0]) :: []
def p_X0_plus_0 : List (List (Nat × Nat)) := [] :: [(2, 178)] :: [] :: [(2, 178)] :: [] :: [] :: [] :: [] :: []
def bl_X0_plus : List (Nat × List zE) := [(0, b_X0_plus_0), (16, b_X0_plus_16), (17, b_X0_plus_17), (28, b_X0_plus_28), (29, b_X0_plus_29), (40, b_X0_plus_40), (41, b_X0_plus_41), (57, b_X0_plus_57), (101, b_X0_plus_101), (106, b_X0_plus_106), (126, b_X0_plus_126), (130, b_X0_plus_130), (145, b_X0_plus_145), (146, b_X0_plus_146), (164, b_X0_plus_164), (179, b_X0_plus_179), (184, b_X0_plus_184), (197, b_X0_plus_197), (208, b_X0_plus_208), (209, b_X0_plus_209), (225, b_X0_plus_225)]
def pl_X0_plus : List (List (List (Nat × Nat))) := [p_X0_plus_0, p_X0_plus_16, p_X0_plus_17, p_X0_plus_28, p_X0_plus_29, p_X0_plus_40, p_X0_plus_41, p_X0_plus_57, p_X0_plus_101, p_X0_plus_106, p_X0_plus_126, p_X0_plus_130, p_X0_plus_145, p_X0_plus_146, p_X0_plus_164, p_X0_plus_179, p_X0_plus_184, p_X0_plus_197, p_X0_plus_208, p_X0_plus_209, p_X0_plus_225]
theorem k_X0_plus_0 : zlk 0 bl_X0_plus = b_X0_plus_0 := rfl
theorem k_X0_plus_16 : zlk 16 bl_X0_plus = b_X0_plus_16 := rfl
theorem k_X0_plus_17 : zlk 17 bl_X0_plus = b_X0_plus_17 := rfl
theorem k_X0_plus_28 : zlk 28 bl_X0_plus = b_X0_plus_28 := rfl
theorem k_X0_plus_29 : zlk 29 bl_X0_plus = b_X0_plus_29 := rfl
theorem k_X0_plus_40 : zlk 40 bl_X0_plus = b_X0_plus_40 := rfl
theorem k_X0_plus_41 : zlk 41 bl_X0_plus = b_X0_plus_41 := rfl
theorem k_X0_plus_57 : zlk 57 bl_X0_plus = b_X0_plus_57 := rfl
theorem k_X0_plus_101 : zlk 101 bl_X0_plus = b_X0_plus_101 := rfl
theorem k_X0_plus_106 : zlk 106 bl_X0_plus = b_X0_plus_106 := rfl
theorem k_X0_plus_126 : zlk 126 bl_X0_plus = b_X0_plus_126 := rfl
theorem k_X0_plus_130 : zlk 130 bl_X0_plus = b_X0_plus_130 := rfl
theorem k_X0_plus_145 : zlk 145 bl_X0_plus = b_X0_plus_145 := rfl
theorem k_X0_plus_146 : zlk 146 bl_X0_plus = b_X0_plus_146 := rfl
theorem k_X0_plus_164 : zlk 164 bl_X0_plus = b_X0_plus_164 := rfl
theorem k_X0_plus_179 : zlk 179 bl_X0_plus = b_X0_plus_179 := rfl
theorem k_X0_plus_184 : zlk 184 bl_X0_plus = b_X0_plus_184 := rfl
theorem k_X0_plus_197 : zlk 197 bl_X0_plus = b_X0_plus_197 := rfl
theorem k_X0_plus_208 : zlk 208 bl_X0_plus = b_X0_plus_208 := rfl
theorem k_X0_plus_209 : zlk 209 bl_X0_plus = b_X0_plus_209 := rfl
theorem k_X0_plus_225 : zlk 225 bl_X0_plus = b_X0_plus_225 := rfl
set_option maxRecDepth 100000 in
theorem ck_X0_plus : zall q_X0_plus.2.2.2.2.1 q_X0_plus.2.1 0 false q_X0_plus.2.2.1 cal_X0_plus q_X0_plus.2.2.2.1 bl_X0_plus pl_X0_plus = true := by decide +kernel
theorem nm_X0_plus : plainName q_X0_plus.1.cls = true ∧ zRX 0 = q_X0_plus.1.cls ∧ (false = true → q_X0_plus.1.name = "<init>") := ⟨by decide +kernel, rfl, fun h => by first | rfl | cases h⟩
set_option maxRecDepth 100000 in
theorem wd_X0_high : zwd q_X0_high := ⟨zw_in (p := (2, 239)) (by decide +kernel), zw_in (p := (1, 12)) (by decide +kernel), fun _ => zw_in (p := (2, 238)) (by decide +kernel), fun h => absurd rfl h, fun h => absurd h (by decide)⟩
def cal_X0_high : List zCal := []
def b_X0_high_0 : List zE := (0, .lload_n 0, []) :: (1, .bipush 32, [32]) :: (3, .lushr, []) :: (4, .lstore 4, []) :: (6, .lload_n 0, []) :: (7, .ldc2_w 48, [4294967295]) :: (10, .land, []) :: (11, .lstore 6, []) :: (13, .lload_n 2, []) :: (14, .bipush 32, [32]) :: (16, .lushr, []) :: (17, .lstore 8, []) :: (19, .lload_n 2, []) :: (20, .ldc2_w 48, [4294967295]) :: (23, .land, []) :: (24, .lstore 10, []) :: (26, .lload 4, []) :: (28, .lload 10, []) :: (30, .lmul, []) :: (31, .lload 6, []) :: (33, .lload 10, []) :: (35, .lmul, []) :: (36, .bipush 32, [32]) :: (38, .lushr, []) :: (39, .ladd, []) :: (40, .lstore 12, []) :: (42, .lload 6, []) :: (44, .lload 8, []) :: (46, .lmul, []) :: (47, .lload 12, []) :: (49, .ldc2_w 48, [4294967295]) :: (52, .land, []) :: (53, .ladd, []) :: (54, .lstore 14, []) :: (56, .lload 4, []) :: (58, .lload 8, []) :: (60, .lmul, []) :: (61, .lload 12, []) :: (63, .bipush 32, [32]) :: (65, .lushr, []) :: (66, .ladd, []) :: (67, .lload 14, []) :: (69, .bipush 32, [32]) :: (71, .lushr, []) :: (72, .ladd, []) :: (73, .lreturn, []) :: []
def p_X0_high_0 : List (List (Nat × Nat)) := [] :: [] :: [] :: [] :: [] :: [(3, 0)] :: [] :: [] :: [] :: [] :: [] :: [] :: [] :: [(3, 0)] :: [] :: [] :: [] :: [] :: [] :: [] :: [] :: [] :: [] :: [] :: [] :: [] :: [] :: [] :: [] :: [] :: [(3, 0)] :: [] :: [] :: [] :: [] :: [] :: [] :: [] :: [] :: [] :: [] :: [] :: [] :: [] :: [] :: [] :: []
def bl_X0_high : List (Nat × List zE) := [(0, b_X0_high_0)]
def pl_X0_high : List (List (List (Nat × Nat))) := [p_X0_high_0]
theorem k_X0_high_0 : zlk 0 bl_X0_high = b_X0_high_0 := rfl
set_option maxRecDepth 100000 in
theorem ck_X0_high : zall q_X0_high.2.2.2.2.1 q_X0_high.2.1 0 false q_X0_high.2.2.1 cal_X0_high q_X0_high.2.2.2.1 bl_X0_high pl_X0_high = true := by decide +kernel
theorem nm_X0_high : plainName q_X0_high.1.cls = true ∧ zRX 0 = q_X0_high.1.cls ∧ (false = true → q_X0_high.1.name = "<init>") := ⟨by decide +kernel, rfl, fun h => by first | rfl | cases h⟩
set_option maxRecDepth 100000 in
theorem wd_X0_times : zwd q_X0_times := ⟨zw_in (p := (3, 13)) (by decide +kernel), zw_in (p := (1, 12)) (by decide +kernel), fun _ => zw_in (p := (3, 12)) (by decide +kernel), fun h => absurd rfl h, fun h => absurd h (by decide)⟩
def cal_X0_times : List zCal := [q_X0_fullMantissa, q_X0_fullScale, q_X0_high, q_X0_rounded]
def b_X0_times_71 : List zE := (71, .iload 9, []) :: (73, .bipush 64, [64]) :: (75, .iadd, []) :: (76, .iconst 0, [0]) :: (77, .invokestatic 44, [3, 5]) :: (80, .lreturn, []) :: []
def p_X0_times_71 : List (List (Nat × Nat)) := [] :: [] :: [] :: [] :: [(2, 214)] :: [] :: []
def b_X0_times_70 : List zE := (70, .iconst 0, [0]) :: (71, .nop, [0]) :: []
def p_X0_times_70 : List (List (Nat × Nat)) := [] :: [] :: []
def b_X0_times_13 : List zE := (13, .istore 4, []) :: (15, .lload_n 0, []) :: (16, .invokestatic 50, [0, 1]) :: (19, .bipush 10, [10]) :: (21, .lshl, []) :: (22, .lstore 5, []) :: (24, .lload_n 2, []) :: (25, .invokestatic 50, [0, 1]) :: (28, .bipush 10, [10]) :: (30, .lshl, []) :: (31, .lstore 7, []) :: (33, .lload_n 0, []) :: (34, .invokestatic 53, [1, 1]) :: (37, .lload_n 2, []) :: (38, .invokestatic 53, [1, 1]) :: (41, .iadd, []) :: (42, .bipush 20, [20]) :: (44, .isub, []) :: (45, .istore 9, []) :: (47, .iload 4, []) :: (49, .lload 5, []) :: (51, .lload 7, []) :: (53, .invokestatic 56, [2, 2]) :: (56, .lload 5, []) :: (58, .lload 7, []) :: (60, .lmul, []) :: (61, .lconst 0, [0]) :: (62, .lcmp, []) :: (63, .ifCond .eq 7, [70, 0]) :: (66, .iconst 1, [1]) :: (67, .goto 4, [71, 0]) :: []
def p_X0_times_13 : List (List (Nat × Nat)) := [] :: [] :: [(2, 234)] :: [] :: [] :: [] :: [] :: [(2, 234)] :: [] :: [] :: [] :: [] :: [(3, 1)] :: [] :: [(3, 1)] :: [] :: [] :: [] :: [] :: [] :: [] :: [] :: [(2, 237)] :: [] :: [] :: [] :: [] :: [] :: [] :: [] :: [] :: []
def b_X0_times_12 : List zE := (12, .iconst 0, [0]) :: (13, .nop, [0]) :: []
def p_X0_times_12 : List (List (Nat × Nat)) := [] :: [] :: []
def b_X0_times_0 : List zE := (0, .lload_n 0, []) :: (1, .lload_n 2, []) :: (2, .lxor, []) :: (3, .lconst 0, [0]) :: (4, .lcmp, []) :: (5, .ifCond .ge 7, [12, 0]) :: (8, .iconst 1, [1]) :: (9, .goto 4, [13, 0]) :: []
def p_X0_times_0 : List (List (Nat × Nat)) := [] :: [] :: [] :: [] :: [] :: [] :: [] :: [] :: []
def bl_X0_times : List (Nat × List zE) := [(0, b_X0_times_0), (12, b_X0_times_12), (13, b_X0_times_13), (70, b_X0_times_70), (71, b_X0_times_71)]
def pl_X0_times : List (List (List (Nat × Nat))) := [p_X0_times_0, p_X0_times_12, p_X0_times_13, p_X0_times_70, p_X0_times_71]
theorem k_X0_times_0 : zlk 0 bl_X0_times = b_X0_times_0 := rfl
theorem k_X0_times_12 : zlk 12 bl_X0_times = b_X0_times_12 := rfl
theorem k_X0_times_13 : zlk 13 bl_X0_times = b_X0_times_13 := rfl
theorem k_X0_times_70 : zlk 70 bl_X0_times = b_X0_times_70 := rfl
theorem k_X0_times_71 : zlk 71 bl_X0_times = b_X0_times_71 := rfl
set_option maxRecDepth 100000 in
theorem ck_X0_times : zall q_X0_times.2.2.2.2.1 q_X0_times.2.1 0 false q_X0_times.2.2.1 cal_X0_times q_X0_times.2.2.2.1 bl_X0_times pl_X0_times = true := by decide +kernel
theorem nm_X0_times : plainName q_X0_times.1.cls = true ∧ zRX 0 = q_X0_times.1.cls ∧ (false = true → q_X0_times.1.name = "<init>") := ⟨by decide +kernel, rfl, fun h => by first | rfl | cases h⟩
set_option maxRecDepth 100000 in
theorem wd_X0_over : zwd q_X0_over := ⟨zw_in (p := (3, 87)) (by decide +kernel), zw_in (p := (1, 12)) (by decide +kernel), fun _ => zw_in (p := (3, 86)) (by decide +kernel), fun h => absurd rfl h, fun h => absurd h (by decide)⟩
def cal_X0_over : List zCal := [q_X0_fullMantissa, q_X0_fullScale, q_X0_rounded]
def b_X0_over_122 : List zE := (122, .lload_n 0, []) :: (123, .invokestatic 53, [1, 1]) :: (126, .lload_n 2, []) :: (127, .invokestatic 53, [1, 1]) :: (130, .isub, []) :: (131, .bipush 60, [60]) :: (133, .isub, []) :: (134, .iconst 0, [0]) :: (135, .invokestatic 44, [2, 5]) :: (138, .lreturn, []) :: []
def p_X0_over_122 : List (List (Nat × Nat)) := [] :: [(3, 1)] :: [] :: [(3, 1)] :: [] :: [] :: [] :: [] :: [(2, 214)] :: [] :: []
def b_X0_over_121 : List zE := (121, .iconst 0, [0]) :: (122, .nop, [0]) :: []
def p_X0_over_121 : List (List (Nat × Nat)) := [] :: [] :: []
def b_X0_over_106 : List zE := (106, .iload 8, []) :: (108, .lload 9, []) :: (110, .lload 11, []) :: (112, .lconst 0, [0]) :: (113, .lcmp, []) :: (114, .ifCond .eq 7, [121, 0]) :: (117, .iconst 1, [1]) :: (118, .goto 4, [122, 0]) :: []
def p_X0_over_106 : List (List (Nat × Nat)) := [] :: [] :: [] :: [] :: [] :: [] :: [] :: [] :: []
def b_X0_over_66 : List zE := (66, .iload 13, []) :: (68, .bipush 6, [6]) :: (70, .if_icmp .ge 36, [106, 0]) :: (73, .lload 11, []) :: (75, .bipush 10, [10]) :: (77, .lshl, []) :: (78, .lstore 11, []) :: (80, .lload 9, []) :: (82, .bipush 10, [10]) :: (84, .lshl, []) :: (85, .lload 11, []) :: (87, .lload 6, []) :: (89, .ldiv, []) :: (90, .ladd, []) :: (91, .lstore 9, []) :: (93, .lload 11, []) :: (95, .lload 6, []) :: (97, .lrem, []) :: (98, .lstore 11, []) :: (100, .iinc 13 1, [1]) :: (103, .goto (-37), [66, 1]) :: []
def p_X0_over_66 : List (List (Nat × Nat)) := [] :: [] :: [] :: [] :: [] :: [] :: [] :: [] :: [] :: [] :: [] :: [] :: [] :: [] :: [] :: [] :: [] :: [] :: [] :: [] :: [] :: []
def b_X0_over_49 : List zE := (49, .lload 4, []) :: (51, .lload 6, []) :: (53, .ldiv, []) :: (54, .lstore 9, []) :: (56, .lload 4, []) :: (58, .lload 6, []) :: (60, .lrem, []) :: (61, .lstore 11, []) :: (63, .iconst 0, [0]) :: (64, .istore 13, []) :: (66, .nop, []) :: []
def p_X0_over_49 : List (List (Nat × Nat)) := [] :: [] :: [] :: [] :: [] :: [] :: [] :: [] :: [] :: [] :: [] :: []
def b_X0_over_48 : List zE := (48, .lreturn, []) :: []
def p_X0_over_48 : List (List (Nat × Nat)) := [] :: []
def b_X0_over_45 : List zE := (45, .ldc2_w 11, [9218868437227405312]) :: (48, .nop, [0]) :: []
def p_X0_over_45 : List (List (Nat × Nat)) := [(2, 134)] :: [] :: []
def b_X0_over_25 : List zE := (25, .istore 8, []) :: (27, .lload 6, []) :: (29, .lconst 0, [0]) :: (30, .lcmp, []) :: (31, .ifCond .gt 18, [49, 0]) :: (34, .iload 8, []) :: (36, .ifCond .eq 9, [45, 0]) :: (39, .ldc2_w 60, [18442240474082181120]) :: (42, .goto 6, [48, 0]) :: []
def p_X0_over_25 : List (List (Nat × Nat)) := [] :: [] :: [] :: [] :: [] :: [] :: [] :: [(3, 88)] :: [] :: []
def b_X0_over_24 : List zE := (24, .iconst 0, [0]) :: (25, .nop, [0]) :: []
def p_X0_over_24 : List (List (Nat × Nat)) := [] :: [] :: []
def b_X0_over_0 : List zE := (0, .lload_n 0, []) :: (1, .invokestatic 50, [0, 1]) :: (4, .lstore 4, []) :: (6, .lload_n 2, []) :: (7, .invokestatic 50, [0, 1]) :: (10, .lstore 6, []) :: (12, .lload_n 0, []) :: (13, .lload_n 2, []) :: (14, .lxor, []) :: (15, .lconst 0, [0]) :: (16, .lcmp, []) :: (17, .ifCond .ge 7, [24, 0]) :: (20, .iconst 1, [1]) :: (21, .goto 4, [25, 0]) :: []
def p_X0_over_0 : List (List (Nat × Nat)) := [] :: [(2, 234)] :: [] :: [] :: [(2, 234)] :: [] :: [] :: [] :: [] :: [] :: [] :: [] :: [] :: [] :: []
def bl_X0_over : List (Nat × List zE) := [(0, b_X0_over_0), (24, b_X0_over_24), (25, b_X0_over_25), (45, b_X0_over_45), (48, b_X0_over_48), (49, b_X0_over_49), (66, b_X0_over_66), (106, b_X0_over_106), (121, b_X0_over_121), (122, b_X0_over_122)]
def pl_X0_over : List (List (List (Nat × Nat))) := [p_X0_over_0, p_X0_over_24, p_X0_over_25, p_X0_over_45, p_X0_over_48, p_X0_over_49, p_X0_over_66, p_X0_over_106, p_X0_over_121, p_X0_over_122]
theorem k_X0_over_0 : zlk 0 bl_X0_over = b_X0_over_0 := rfl
theorem k_X0_over_24 : zlk 24 bl_X0_over = b_X0_over_24 := rfl
theorem k_X0_over_25 : zlk 25 bl_X0_over = b_X0_over_25 := rfl
theorem k_X0_over_45 : zlk 45 bl_X0_over = b_X0_over_45 := rfl
theorem k_X0_over_48 : zlk 48 bl_X0_over = b_X0_over_48 := rfl
theorem k_X0_over_49 : zlk 49 bl_X0_over = b_X0_over_49 := rfl
theorem k_X0_over_66 : zlk 66 bl_X0_over = b_X0_over_66 := rfl
theorem k_X0_over_106 : zlk 106 bl_X0_over = b_X0_over_106 := rfl
theorem k_X0_over_121 : zlk 121 bl_X0_over = b_X0_over_121 := rfl
theorem k_X0_over_122 : zlk 122 bl_X0_over = b_X0_over_122 := rfl
set_option maxRecDepth 100000 in
theorem ck_X0_over : zall q_X0_over.2.2.2.2.1 q_X0_over.2.1 0 false q_X0_over.2.2.1 cal_X0_over q_X0_over.2.2.2.1 bl_X0_over pl_X0_over = true := by decide +kernel
theorem nm_X0_over : plainName q_X0_over.1.cls = true ∧ zRX 0 = q_X0_over.1.cls ∧ (false = true → q_X0_over.1.name = "<init>") := ⟨by decide +kernel, rfl, fun h => by first | rfl | cases h⟩
set_option maxRecDepth 100000 in
theorem wd_X0_root : zwd q_X0_root := ⟨zw_in (p := (3, 83)) (by decide +kernel), zw_in (p := (1, 12)) (by decide +kernel), fun _ => zw_in (p := (3, 82)) (by decide +kernel), fun h => absurd rfl h, fun h => absurd h (by decide)⟩
def cal_X0_root : List zCal := [q_X0_fullMantissa, q_X0_fullScale, q_X0_rounded]
def b_X0_root_128 : List zE := (128, .iload 4, []) :: (130, .iconst 1, [1]) :: (131, .ishr, []) :: (132, .bipush 30, [30]) :: (134, .isub, []) :: (135, .iconst 0, [0]) :: (136, .invokestatic 44, [2, 5]) :: (139, .lreturn, []) :: []
def p_X0_root_128 : List (List (Nat × Nat)) := [] :: [] :: [] :: [] :: [] :: [] :: [(2, 214)] :: [] :: []
def b_X0_root_127 : List zE := (127, .iconst 0, [0]) :: (128, .nop, [0]) :: []
def p_X0_root_127 : List (List (Nat × Nat)) := [] :: [] :: []
def b_X0_root_113 : List zE := (113, .iconst 0, [0]) :: (114, .lload 5, []) :: (116, .lload 7, []) :: (118, .lconst 0, [0]) :: (119, .lcmp, []) :: (120, .ifCond .eq 7, [127, 0]) :: (123, .iconst 1, [1]) :: (124, .goto 4, [128, 0]) :: []
def p_X0_root_113 : List (List (Nat × Nat)) := [] :: [] :: [] :: [] :: [] :: [] :: [] :: [] :: []
def b_X0_root_107 : List zE := (107, .iinc 9 1, [1]) :: (110, .goto (-76), [34, 1]) :: []
def p_X0_root_107 : List (List (Nat × Nat)) := [] :: [] :: []
def b_X0_root_69 : List zE := (69, .ladd, []) :: (70, .lstore 7, []) :: (72, .lload 5, []) :: (74, .iconst 2, [2]) :: (75, .lshl, []) :: (76, .lconst 1, [1]) :: (77, .ladd, []) :: (78, .lstore 10, []) :: (80, .lload 5, []) :: (82, .iconst 1, [1]) :: (83, .lshl, []) :: (84, .lstore 5, []) :: (86, .lload 7, []) :: (88, .lload 10, []) :: (90, .lcmp, []) :: (91, .ifCond .lt 16, [107, 0]) :: (94, .lload 7, []) :: (96, .lload 10, []) :: (98, .lsub, []) :: (99, .lstore 7, []) :: (101, .lload 5, []) :: (103, .lconst 1, [1]) :: (104, .ladd, []) :: (105, .lstore 5, []) :: (107, .nop, [0]) :: []
def p_X0_root_69 : List (List (Nat × Nat)) := [] :: [] :: [] :: [] :: [] :: [] :: [] :: [] :: [] :: [] :: [] :: [] :: [] :: [] :: [] :: [] :: [] :: [] :: [] :: [] :: [] :: [] :: [] :: [] :: [] :: []
def b_X0_root_68 : List zE := (68, .lconst 0, [0]) :: (69, .nop, [0]) :: []
def p_X0_root_68 : List (List (Nat × Nat)) := [] :: [] :: []
def b_X0_root_34 : List zE := (34, .iload 9, []) :: (36, .bipush 57, [57]) :: (38, .if_icmp .ge 75, [113, 0]) :: (41, .lload 7, []) :: (43, .iconst 2, [2]) :: (44, .lshl, []) :: (45, .iload 9, []) :: (47, .bipush 27, [27]) :: (49, .if_icmp .ge 19, [68, 0]) :: (52, .lload_n 2, []) :: (53, .bipush 52, [52]) :: (55, .iconst 2, [2]) :: (56, .iload 9, []) :: (58, .imul, []) :: (59, .isub, []) :: (60, .lushr, []) :: (61, .ldc2_w 62, [3]) :: (64, .land, []) :: (65, .goto 4, [69, 0]) :: []
def p_X0_root_34 : List (List (Nat × Nat)) := [] :: [] :: [] :: [] :: [] :: [] :: [] :: [] :: [] :: [] :: [] :: [] :: [] :: [] :: [] :: [] :: [(3, 84)] :: [] :: [] :: []
def b_X0_root_25 : List zE := (25, .lconst 0, [0]) :: (26, .lstore 5, []) :: (28, .lconst 0, [0]) :: (29, .lstore 7, []) :: (31, .iconst 0, [0]) :: (32, .istore 9, []) :: (34, .nop, []) :: []
def p_X0_root_25 : List (List (Nat × Nat)) := [] :: [] :: [] :: [] :: [] :: [] :: [] :: []
def b_X0_root_0 : List zE := (0, .lload_n 0, []) :: (1, .invokestatic 50, [0, 1]) :: (4, .lstore_n 2, []) :: (5, .lload_n 0, []) :: (6, .invokestatic 53, [1, 1]) :: (9, .istore 4, []) :: (11, .iload 4, []) :: (13, .iconst 1, [1]) :: (14, .iand, []) :: (15, .ifCond .eq 10, [25, 0]) :: (18, .lload_n 2, []) :: (19, .iconst 1, [1]) :: (20, .lshl, []) :: (21, .lstore_n 2, []) :: (22, .iinc 4 (-1), [4294967295]) :: (25, .nop, [0]) :: []
def p_X0_root_0 : List (List (Nat × Nat)) := [] :: [(2, 234)] :: [] :: [] :: [(3, 1)] :: [] :: [] :: [] :: [] :: [] :: [] :: [] :: [] :: [] :: [] :: [] :: []
def bl_X0_root : List (Nat × List zE) := [(0, b_X0_root_0), (25, b_X0_root_25), (34, b_X0_root_34), (68, b_X0_root_68), (69, b_X0_root_69), (107, b_X0_root_107), (113, b_X0_root_113), (127, b_X0_root_127), (128, b_X0_root_128)]
def pl_X0_root : List (List (List (Nat × Nat))) := [p_X0_root_0, p_X0_root_25, p_X0_root_34, p_X0_root_68, p_X0_root_69, p_X0_root_107, p_X0_root_113, p_X0_root_127, p_X0_root_128]
theorem k_X0_root_0 : zlk 0 bl_X0_root = b_X0_root_0 := rfl
theorem k_X0_root_25 : zlk 25 bl_X0_root = b_X0_root_25 := rfl
theorem k_X0_root_34 : zlk 34 bl_X0_root = b_X0_root_34 := rfl
theorem k_X0_root_68 : zlk 68 bl_X0_root = b_X0_root_68 := rfl
theorem k_X0_root_69 : zlk 69 bl_X0_root = b_X0_root_69 := rfl
theorem k_X0_root_107 : zlk 107 bl_X0_root = b_X0_root_107 := rfl
theorem k_X0_root_113 : zlk 113 bl_X0_root = b_X0_root_113 := rfl
theorem k_X0_root_127 : zlk 127 bl_X0_root = b_X0_root_127 := rfl
theorem k_X0_root_128 : zlk 128 bl_X0_root = b_X0_root_128 := rfl
set_option maxRecDepth 100000 in
theorem ck_X0_root : zall q_X0_root.2.2.2.2.1 q_X0_root.2.1 0 false q_X0_root.2.2.1 cal_X0_root q_X0_root.2.2.2.1 bl_X0_root pl_X0_root = true := by decide +kernel
theorem nm_X0_root : plainName q_X0_root.1.cls = true ∧ zRX 0 = q_X0_root.1.cls ∧ (false = true → q_X0_root.1.name = "<init>") := ⟨by decide +kernel, rfl, fun h => by first | rfl | cases h⟩
set_option maxRecDepth 100000 in
theorem wd_X0_lowerPart : zwd q_X0_lowerPart := ⟨zw_in (p := (3, 6)) (by decide +kernel), zw_in (p := (1, 12)) (by decide +kernel), fun _ => zw_in (p := (3, 5)) (by decide +kernel), fun h => absurd rfl h, fun h => absurd h (by decide)⟩
def cal_X0_lowerPart : List zCal := []
def b_X0_lowerPart_123 : List zE := (123, .lreturn, []) :: []
def p_X0_lowerPart_123 : List (List (Nat × Nat)) := [] :: []
def b_X0_lowerPart_122 : List zE := (122, .lconst 0, [0]) :: (123, .nop, [0]) :: []
def p_X0_lowerPart_122 : List (List (Nat × Nat)) := [] :: [] :: []
def b_X0_lowerPart_110 : List zE := (110, .lload_n 0, []) :: (111, .lload_n 2, []) :: (112, .lor, []) :: (113, .lconst 0, [0]) :: (114, .lcmp, []) :: (115, .ifCond .eq 7, [122, 0]) :: (118, .lconst 1, [1]) :: (119, .goto 4, [123, 0]) :: []
def p_X0_lowerPart_110 : List (List (Nat × Nat)) := [] :: [] :: [] :: [] :: [] :: [] :: [] :: [] :: []
def b_X0_lowerPart_107 : List zE := (107, .i2l, []) :: (108, .lor, []) :: (109, .lreturn, []) :: []
def p_X0_lowerPart_107 : List (List (Nat × Nat)) := [] :: [] :: [] :: []
def b_X0_lowerPart_106 : List zE := (106, .iconst 0, [0]) :: (107, .nop, [0]) :: []
def p_X0_lowerPart_106 : List (List (Nat × Nat)) := [] :: [] :: []
def b_X0_lowerPart_102 : List zE := (102, .iconst 1, [1]) :: (103, .goto 4, [107, 0]) :: []
def p_X0_lowerPart_102 : List (List (Nat × Nat)) := [] :: [] :: []
def b_X0_lowerPart_68 : List zE := (68, .iload 4, []) :: (70, .sipush 128, [128]) :: (73, .if_icmp .ge 37, [110, 0]) :: (76, .lload_n 0, []) :: (77, .iload 4, []) :: (79, .bipush 64, [64]) :: (81, .isub, []) :: (82, .lushr, []) :: (83, .lload_n 0, []) :: (84, .sipush 128, [128]) :: (87, .iload 4, []) :: (89, .isub, []) :: (90, .lshl, []) :: (91, .lconst 0, [0]) :: (92, .lcmp, []) :: (93, .ifCond .ne 9, [102, 0]) :: (96, .lload_n 2, []) :: (97, .lconst 0, [0]) :: (98, .lcmp, []) :: (99, .ifCond .eq 7, [106, 0]) :: (102, .nop, [0]) :: []
def p_X0_lowerPart_68 : List (List (Nat × Nat)) := [] :: [] :: [] :: [] :: [] :: [] :: [] :: [] :: [] :: [] :: [] :: [] :: [] :: [] :: [] :: [] :: [] :: [] :: [] :: [] :: [] :: []
def b_X0_lowerPart_65 : List zE := (65, .i2l, []) :: (66, .lor, []) :: (67, .lreturn, []) :: []
def p_X0_lowerPart_65 : List (List (Nat × Nat)) := [] :: [] :: [] :: []
def b_X0_lowerPart_64 : List zE := (64, .iconst 0, [0]) :: (65, .nop, [0]) :: []
def p_X0_lowerPart_64 : List (List (Nat × Nat)) := [] :: [] :: []
def b_X0_lowerPart_46 : List zE := (46, .iload 4, []) :: (48, .bipush 64, [64]) :: (50, .if_icmp .ne 18, [68, 0]) :: (53, .lload_n 0, []) :: (54, .lload_n 2, []) :: (55, .lconst 0, [0]) :: (56, .lcmp, []) :: (57, .ifCond .eq 7, [64, 0]) :: (60, .iconst 1, [1]) :: (61, .goto 4, [65, 0]) :: []
def p_X0_lowerPart_46 : List (List (Nat × Nat)) := [] :: [] :: [] :: [] :: [] :: [] :: [] :: [] :: [] :: [] :: []
def b_X0_lowerPart_43 : List zE := (43, .i2l, []) :: (44, .lor, []) :: (45, .lreturn, []) :: []
def p_X0_lowerPart_43 : List (List (Nat × Nat)) := [] :: [] :: [] :: []
def b_X0_lowerPart_42 : List zE := (42, .iconst 0, [0]) :: (43, .nop, [0]) :: []
def p_X0_lowerPart_42 : List (List (Nat × Nat)) := [] :: [] :: []
def b_X0_lowerPart_7 : List zE := (7, .iload 4, []) :: (9, .bipush 64, [64]) :: (11, .if_icmp .ge 35, [46, 0]) :: (14, .lload_n 0, []) :: (15, .bipush 64, [64]) :: (17, .iload 4, []) :: (19, .isub, []) :: (20, .lshl, []) :: (21, .lload_n 2, []) :: (22, .iload 4, []) :: (24, .lushr, []) :: (25, .lor, []) :: (26, .lload_n 2, []) :: (27, .bipush 64, [64]) :: (29, .iload 4, []) :: (31, .isub, []) :: (32, .lshl, []) :: (33, .lconst 0, [0]) :: (34, .lcmp, []) :: (35, .ifCond .eq 7, [42, 0]) :: (38, .iconst 1, [1]) :: (39, .goto 4, [43, 0]) :: []
def p_X0_lowerPart_7 : List (List (Nat × Nat)) := [] :: [] :: [] :: [] :: [] :: [] :: [] :: [] :: [] :: [] :: [] :: [] :: [] :: [] :: [] :: [] :: [] :: [] :: [] :: [] :: [] :: [] :: []
def b_X0_lowerPart_0 : List zE := (0, .iload 4, []) :: (2, .ifCond .gt 5, [7, 0]) :: (5, .lload_n 2, []) :: (6, .lreturn, []) :: []
def p_X0_lowerPart_0 : List (List (Nat × Nat)) := [] :: [] :: [] :: [] :: []
def bl_X0_lowerPart : List (Nat × List zE) := [(0, b_X0_lowerPart_0), (7, b_X0_lowerPart_7), (42, b_X0_lowerPart_42), (43, b_X0_lowerPart_43), (46, b_X0_lowerPart_46), (64, b_X0_lowerPart_64), (65, b_X0_lowerPart_65), (68, b_X0_lowerPart_68), (102, b_X0_lowerPart_102), (106, b_X0_lowerPart_106), (107, b_X0_lowerPart_107), (110, b_X0_lowerPart_110), (122, b_X0_lowerPart_122), (123, b_X0_lowerPart_123)]
def pl_X0_lowerPart : List (List (List (Nat × Nat))) := [p_X0_lowerPart_0, p_X0_lowerPart_7, p_X0_lowerPart_42, p_X0_lowerPart_43, p_X0_lowerPart_46, p_X0_lowerPart_64, p_X0_lowerPart_65, p_X0_lowerPart_68, p_X0_lowerPart_102, p_X0_lowerPart_106, p_X0_lowerPart_107, p_X0_lowerPart_110, p_X0_lowerPart_122, p_X0_lowerPart_123]
theorem k_X0_lowerPart_0 : zlk 0 bl_X0_lowerPart = b_X0_lowerPart_0 := rfl
theorem k_X0_lowerPart_7 : zlk 7 bl_X0_lowerPart = b_X0_lowerPart_7 := rfl
theorem k_X0_lowerPart_42 : zlk 42 bl_X0_lowerPart = b_X0_lowerPart_42 := rfl
theorem k_X0_lowerPart_43 : zlk 43 bl_X0_lowerPart = b_X0_lowerPart_43 := rfl
theorem k_X0_lowerPart_46 : zlk 46 bl_X0_lowerPart = b_X0_lowerPart_46 := rfl
theorem k_X0_lowerPart_64 : zlk 64 bl_X0_lowerPart = b_X0_lowerPart_64 := rfl
theorem k_X0_lowerPart_65 : zlk 65 bl_X0_lowerPart = b_X0_lowerPart_65 := rfl
theorem k_X0_lowerPart_68 : zlk 68 bl_X0_lowerPart = b_X0_lowerPart_68 := rfl
theorem k_X0_lowerPart_102 : zlk 102 bl_X0_lowerPart = b_X0_lowerPart_102 := rfl
theorem k_X0_lowerPart_106 : zlk 106 bl_X0_lowerPart = b_X0_lowerPart_106 := rfl
theorem k_X0_lowerPart_107 : zlk 107 bl_X0_lowerPart = b_X0_lowerPart_107 := rfl
theorem k_X0_lowerPart_110 : zlk 110 bl_X0_lowerPart = b_X0_lowerPart_110 := rfl
theorem k_X0_lowerPart_122 : zlk 122 bl_X0_lowerPart = b_X0_lowerPart_122 := rfl
theorem k_X0_lowerPart_123 : zlk 123 bl_X0_lowerPart = b_X0_lowerPart_123 := rfl
set_option maxRecDepth 100000 in
theorem ck_X0_lowerPart : zall q_X0_lowerPart.2.2.2.2.1 q_X0_lowerPart.2.1 0 false q_X0_lowerPart.2.2.1 cal_X0_lowerPart q_X0_lowerPart.2.2.2.1 bl_X0_lowerPart pl_X0_lowerPart = true := by decide +kernel
theorem nm_X0_lowerPart : plainName q_X0_lowerPart.1.cls = true ∧ zRX 0 = q_X0_lowerPart.1.cls ∧ (false = true → q_X0_lowerPart.1.name = "<init>") := ⟨by decide +kernel, rfl, fun h => by first | rfl | cases h⟩
set_option maxRecDepth 100000 in
theorem wd_X0_below : zwd q_X0_below := ⟨zw_in (p := (3, 9)) (by decide +kernel), zw_in (p := (1, 12)) (by decide +kernel), fun _ => zw_in (p := (3, 8)) (by decide +kernel), fun h => absurd rfl h, fun h => absurd h (by decide)⟩
def cal_X0_below : List zCal := []
def b_X0_below_19 : List zE := (19, .ireturn, []) :: []
def p_X0_below_19 : List (List (Nat × Nat)) := [] :: []
def b_X0_below_18 : List zE := (18, .iconst 0, [0]) :: (19, .nop, [0]) :: []
def p_X0_below_18 : List (List (Nat × Nat)) := [] :: [] :: []
def b_X0_below_0 : List zE := (0, .lload_n 0, []) :: (1, .ldc2_w 15, [9223372036854775808]) :: (4, .lxor, []) :: (5, .lload_n 2, []) :: (6, .ldc2_w 15, [9223372036854775808]) :: (9, .lxor, []) :: (10, .lcmp, []) :: (11, .ifCond .ge 7, [18, 0]) :: (14, .iconst 1, [1]) :: (15, .goto 4, [19, 0]) :: []
def p_X0_below_0 : List (List (Nat × Nat)) := [] :: [(2, 155)] :: [] :: [] :: [(2, 155)] :: [] :: [] :: [] :: [] :: [] :: []
def bl_X0_below : List (Nat × List zE) := [(0, b_X0_below_0), (18, b_X0_below_18), (19, b_X0_below_19)]
def pl_X0_below : List (List (List (Nat × Nat))) := [p_X0_below_0, p_X0_below_18, p_X0_below_19]
theorem k_X0_below_0 : zlk 0 bl_X0_below = b_X0_below_0 := rfl
theorem k_X0_below_18 : zlk 18 bl_X0_below = b_X0_below_18 := rfl
theorem k_X0_below_19 : zlk 19 bl_X0_below = b_X0_below_19 := rfl
set_option maxRecDepth 100000 in
theorem ck_X0_below : zall q_X0_below.2.2.2.2.1 q_X0_below.2.1 0 false q_X0_below.2.2.1 cal_X0_below q_X0_below.2.2.2.1 bl_X0_below pl_X0_below = true := by decide +kernel
theorem nm_X0_below : plainName q_X0_below.1.cls = true ∧ zRX 0 = q_X0_below.1.cls ∧ (false = true → q_X0_below.1.name = "<init>") := ⟨by decide +kernel, rfl, fun h => by first | rfl | cases h⟩
set_option maxRecDepth 100000 in
theorem wd_X0_fused : zwd q_X0_fused := ⟨zw_in (p := (2, 233)) (by decide +kernel), zw_in (p := (1, 12)) (by decide +kernel), fun _ => zw_in (p := (2, 232)) (by decide +kernel), fun h => absurd rfl h, fun h => absurd h (by decide)⟩
def cal_X0_fused : List zCal := [q_X0_magnitude, q_X0_fullMantissa, q_X0_high, q_X0_fullScale, q_X0_lowerPart, q_X0_below, q_X0_rounded, q_X0_bitLength]
def b_X0_fused_426 : List zE := (426, .iload 20, []) :: (428, .bipush 64, [64]) :: (430, .iadd, []) :: (431, .iload 22, []) :: (433, .isub, []) :: (434, .iconst 0, [0]) :: (435, .invokestatic 44, [6, 5]) :: (438, .lreturn, []) :: []
def p_X0_fused_426 : List (List (Nat × Nat)) := [] :: [] :: [] :: [] :: [] :: [] :: [(2, 214)] :: [] :: []
def b_X0_fused_425 : List zE := (425, .iconst 0, [0]) :: (426, .nop, [0]) :: []
def p_X0_fused_425 : List (List (Nat × Nat)) := [] :: [] :: []
def b_X0_fused_409 : List zE := (409, .lload 23, []) :: (411, .lload 14, []) :: (413, .iload 22, []) :: (415, .lshl, []) :: (416, .lconst 0, [0]) :: (417, .lcmp, []) :: (418, .ifCond .eq 7, [425, 0]) :: (421, .iconst 1, [1]) :: (422, .goto 4, [426, 0]) :: []
def p_X0_fused_409 : List (List (Nat × Nat)) := [] :: [] :: [] :: [] :: [] :: [] :: [] :: [] :: [] :: []
def b_X0_fused_408 : List zE := (408, .iconst 0, [0]) :: (409, .nop, [0]) :: []
def p_X0_fused_408 : List (List (Nat × Nat)) := [] :: [] :: []
def b_X0_fused_395 : List zE := (395, .lstore 23, []) :: (397, .lload 6, []) :: (399, .lconst 0, [0]) :: (400, .lcmp, []) :: (401, .ifCond .ge 7, [408, 0]) :: (404, .iconst 1, [1]) :: (405, .goto 4, [409, 0]) :: []
def p_X0_fused_395 : List (List (Nat × Nat)) := [] :: [] :: [] :: [] :: [] :: [] :: [] :: []
def b_X0_fused_381 : List zE := (381, .lload 12, []) :: (383, .iload 22, []) :: (385, .lshl, []) :: (386, .lload 14, []) :: (388, .bipush 64, [64]) :: (390, .iload 22, []) :: (392, .isub, []) :: (393, .lushr, []) :: (394, .lor, []) :: (395, .nop, [0]) :: []
def p_X0_fused_381 : List (List (Nat × Nat)) := [] :: [] :: [] :: [] :: [] :: [] :: [] :: [] :: [] :: [] :: []
def b_X0_fused_361 : List zE := (361, .bipush 63, [63]) :: (363, .lload 12, []) :: (365, .invokestatic 17, [7, 1]) :: (368, .isub, []) :: (369, .istore 22, []) :: (371, .iload 22, []) :: (373, .ifCond .ne 8, [381, 0]) :: (376, .lload 12, []) :: (378, .goto 17, [395, 0]) :: []
def p_X0_fused_361 : List (List (Nat × Nat)) := [] :: [] :: [(2, 186)] :: [] :: [] :: [] :: [] :: [] :: [] :: []
def b_X0_fused_360 : List zE := (360, .lreturn, []) :: []
def p_X0_fused_360 : List (List (Nat × Nat)) := [] :: []
def b_X0_fused_351 : List zE := (351, .lload 14, []) :: (353, .iconst 0, [0]) :: (354, .iload 20, []) :: (356, .iconst 0, [0]) :: (357, .invokestatic 44, [6, 5]) :: (360, .nop, [0]) :: []
def p_X0_fused_351 : List (List (Nat × Nat)) := [] :: [] :: [] :: [] :: [(2, 214)] :: [] :: []
def b_X0_fused_350 : List zE := (350, .iconst 0, [0]) :: (351, .nop, [0]) :: []
def p_X0_fused_350 : List (List (Nat × Nat)) := [] :: [] :: []
def b_X0_fused_339 : List zE := (339, .lload 6, []) :: (341, .lconst 0, [0]) :: (342, .lcmp, []) :: (343, .ifCond .ge 7, [350, 0]) :: (346, .iconst 1, [1]) :: (347, .goto 4, [351, 0]) :: []
def p_X0_fused_339 : List (List (Nat × Nat)) := [] :: [] :: [] :: [] :: [] :: [] :: []
def b_X0_fused_314 : List zE := (314, .lload 12, []) :: (316, .lconst 0, [0]) :: (317, .lcmp, []) :: (318, .ifCond .ne 43, [361, 0]) :: (321, .lload 14, []) :: (323, .lconst 0, [0]) :: (324, .lcmp, []) :: (325, .ifCond .lt 36, [361, 0]) :: (328, .lload 14, []) :: (330, .lconst 0, [0]) :: (331, .lcmp, []) :: (332, .ifCond .ne 7, [339, 0]) :: (335, .lconst 0, [0]) :: (336, .goto 24, [360, 0]) :: []
def p_X0_fused_314 : List (List (Nat × Nat)) := [] :: [] :: [] :: [] :: [] :: [] :: [] :: [] :: [] :: [] :: [] :: [] :: [] :: [] :: []
def b_X0_fused_302 : List zE := (302, .i2l, []) :: (303, .ladd, []) :: (304, .lstore 12, []) :: (306, .lload 6, []) :: (308, .ldc2_w 15, [9223372036854775808]) :: (311, .lxor, []) :: (312, .lstore 6, []) :: (314, .nop, [0]) :: []
def p_X0_fused_302 : List (List (Nat × Nat)) := [] :: [] :: [] :: [] :: [(2, 155)] :: [] :: [] :: [] :: []
def b_X0_fused_301 : List zE := (301, .iconst 0, [0]) :: (302, .nop, [0]) :: []
def p_X0_fused_301 : List (List (Nat × Nat)) := [] :: [] :: []
def b_X0_fused_272 : List zE := (272, .lload 12, []) :: (274, .lconst 0, [0]) :: (275, .lcmp, []) :: (276, .ifCond .ge 38, [314, 0]) :: (279, .lload 14, []) :: (281, .lneg, []) :: (282, .lstore 14, []) :: (284, .lload 12, []) :: (286, .ldc2_w 72, [18446744073709551615]) :: (289, .lxor, []) :: (290, .lload 14, []) :: (292, .lconst 0, [0]) :: (293, .lcmp, []) :: (294, .ifCond .ne 7, [301, 0]) :: (297, .iconst 1, [1]) :: (298, .goto 4, [302, 0]) :: []
def p_X0_fused_272 : List (List (Nat × Nat)) := [] :: [] :: [] :: [] :: [] :: [] :: [] :: [] :: [(3, 10)] :: [] :: [] :: [] :: [] :: [] :: [] :: [] :: []
def b_X0_fused_260 : List zE := (260, .i2l, []) :: (261, .ladd, []) :: (262, .lsub, []) :: (263, .lstore 12, []) :: (265, .lload 14, []) :: (267, .lload 18, []) :: (269, .lsub, []) :: (270, .lstore 14, []) :: (272, .nop, [0]) :: []
def p_X0_fused_260 : List (List (Nat × Nat)) := [] :: [] :: [] :: [] :: [] :: [] :: [] :: [] :: [] :: []
def b_X0_fused_259 : List zE := (259, .iconst 0, [0]) :: (260, .nop, [0]) :: []
def p_X0_fused_259 : List (List (Nat × Nat)) := [] :: [] :: []
def b_X0_fused_241 : List zE := (241, .lload 12, []) :: (243, .lload 16, []) :: (245, .lload 14, []) :: (247, .lload 18, []) :: (249, .invokestatic 68, [5, 2]) :: (252, .ifCond .eq 7, [259, 0]) :: (255, .iconst 1, [1]) :: (256, .goto 4, [260, 0]) :: []
def p_X0_fused_241 : List (List (Nat × Nat)) := [] :: [] :: [] :: [] :: [(3, 7)] :: [] :: [] :: [] :: []
def b_X0_fused_233 : List zE := (233, .i2l, []) :: (234, .ladd, []) :: (235, .ladd, []) :: (236, .lstore 12, []) :: (238, .goto 34, [272, 0]) :: []
def p_X0_fused_233 : List (List (Nat × Nat)) := [] :: [] :: [] :: [] :: [] :: []
def b_X0_fused_232 : List zE := (232, .iconst 0, [0]) :: (233, .nop, [0]) :: []
def p_X0_fused_232 : List (List (Nat × Nat)) := [] :: [] :: []
def b_X0_fused_197 : List zE := (197, .lload 6, []) :: (199, .lload 4, []) :: (201, .lxor, []) :: (202, .lconst 0, [0]) :: (203, .lcmp, []) :: (204, .ifCond .lt 37, [241, 0]) :: (207, .lload 14, []) :: (209, .lload 18, []) :: (211, .ladd, []) :: (212, .lstore 14, []) :: (214, .lload 12, []) :: (216, .lload 16, []) :: (218, .lload 14, []) :: (220, .lload 18, []) :: (222, .invokestatic 68, [5, 2]) :: (225, .ifCond .eq 7, [232, 0]) :: (228, .iconst 1, [1]) :: (229, .goto 4, [233, 0]) :: []
def p_X0_fused_197 : List (List (Nat × Nat)) := [] :: [] :: [] :: [] :: [] :: [] :: [] :: [] :: [] :: [] :: [] :: [] :: [] :: [] :: [(3, 7)] :: [] :: [] :: [] :: []
def b_X0_fused_188 : List zE := (188, .lstore 12, []) :: (190, .iload 20, []) :: (192, .iload 21, []) :: (194, .isub, []) :: (195, .istore 20, []) :: (197, .nop, [0]) :: []
def p_X0_fused_188 : List (List (Nat × Nat)) := [] :: [] :: [] :: [] :: [] :: [] :: []
def b_X0_fused_182 : List zE := (182, .lload 12, []) :: (184, .iload 21, []) :: (186, .ineg, []) :: (187, .lushr, []) :: (188, .nop, [0]) :: []
def p_X0_fused_182 : List (List (Nat × Nat)) := [] :: [] :: [] :: [] :: [] :: []
def b_X0_fused_158 : List zE := (158, .lload 12, []) :: (160, .lload 14, []) :: (162, .iload 21, []) :: (164, .ineg, []) :: (165, .invokestatic 64, [4, 3]) :: (168, .lstore 14, []) :: (170, .iload 21, []) :: (172, .ineg, []) :: (173, .bipush 63, [63]) :: (175, .if_icmp .le 7, [182, 0]) :: (178, .lconst 0, [0]) :: (179, .goto 9, [188, 0]) :: []
def p_X0_fused_158 : List (List (Nat × Nat)) := [] :: [] :: [] :: [] :: [(3, 4)] :: [] :: [] :: [] :: [] :: [] :: [] :: [] :: []
def b_X0_fused_153 : List zE := (153, .lstore 16, []) :: (155, .goto 42, [197, 0]) :: []
def p_X0_fused_153 : List (List (Nat × Nat)) := [] :: [] :: []
def b_X0_fused_148 : List zE := (148, .lload 16, []) :: (150, .iload 21, []) :: (152, .lushr, []) :: (153, .nop, [0]) :: []
def p_X0_fused_148 : List (List (Nat × Nat)) := [] :: [] :: [] :: [] :: []
def b_X0_fused_48 : List zE := (48, .lload_n 0, []) :: (49, .invokestatic 50, [1, 1]) :: (52, .bipush 10, [10]) :: (54, .lshl, []) :: (55, .lstore 8, []) :: (57, .lload_n 2, []) :: (58, .invokestatic 50, [1, 1]) :: (61, .bipush 10, [10]) :: (63, .lshl, []) :: (64, .lstore 10, []) :: (66, .lload 8, []) :: (68, .lload 10, []) :: (70, .invokestatic 56, [2, 2]) :: (73, .lstore 12, []) :: (75, .lload 8, []) :: (77, .lload 10, []) :: (79, .lmul, []) :: (80, .lstore 14, []) :: (82, .lload 4, []) :: (84, .invokestatic 50, [1, 1]) :: (87, .bipush 9, [9]) :: (89, .lshl, []) :: (90, .lstore 16, []) :: (92, .lconst 0, [0]) :: (93, .lstore 18, []) :: (95, .lload_n 0, []) :: (96, .invokestatic 53, [3, 1]) :: (99, .lload_n 2, []) :: (100, .invokestatic 53, [3, 1]) :: (103, .iadd, []) :: (104, .bipush 20, [20]) :: (106, .isub, []) :: (107, .istore 20, []) :: (109, .iload 20, []) :: (111, .lload 4, []) :: (113, .invokestatic 53, [3, 1]) :: (116, .bipush 73, [73]) :: (118, .isub, []) :: (119, .isub, []) :: (120, .istore 21, []) :: (122, .iload 21, []) :: (124, .ifCond .lt 34, [158, 0]) :: (127, .lload 16, []) :: (129, .lconst 0, [0]) :: (130, .iload 21, []) :: (132, .invokestatic 64, [4, 3]) :: (135, .lstore 18, []) :: (137, .iload 21, []) :: (139, .bipush 63, [63]) :: (141, .if_icmp .le 7, [148, 0]) :: (144, .lconst 0, [0]) :: (145, .goto 8, [153, 0]) :: []
def p_X0_fused_48 : List (List (Nat × Nat)) := [] :: [(2, 234)] :: [] :: [] :: [] :: [] :: [(2, 234)] :: [] :: [] :: [] :: [] :: [] :: [(2, 237)] :: [] :: [] :: [] :: [] :: [] :: [] :: [(2, 234)] :: [] :: [] :: [] :: [] :: [] :: [] :: [(3, 1)] :: [] :: [(3, 1)] :: [] :: [] :: [] :: [] :: [] :: [] :: [(3, 1)] :: [] :: [] :: [] :: [] :: [] :: [] :: [] :: [] :: [] :: [(3, 4)] :: [] :: [] :: [] :: [] :: [] :: [] :: []
def b_X0_fused_47 : List zE := (47, .lreturn, []) :: []
def p_X0_fused_47 : List (List (Nat × Nat)) := [] :: []
def b_X0_fused_45 : List zE := (45, .lload 4, []) :: (47, .nop, [0]) :: []
def p_X0_fused_45 : List (List (Nat × Nat)) := [] :: [] :: []
def b_X0_fused_27 : List zE := (27, .lload 4, []) :: (29, .invokestatic 32, [0, 1]) :: (32, .lconst 0, [0]) :: (33, .lcmp, []) :: (34, .ifCond .ne 11, [45, 0]) :: (37, .lload 6, []) :: (39, .lload 4, []) :: (41, .land, []) :: (42, .goto 5, [47, 0]) :: []
def p_X0_fused_27 : List (List (Nat × Nat)) := [] :: [(2, 178)] :: [] :: [] :: [] :: [] :: [] :: [] :: [] :: []
def b_X0_fused_0 : List zE := (0, .lload_n 0, []) :: (1, .lload_n 2, []) :: (2, .lxor, []) :: (3, .ldc2_w 15, [9223372036854775808]) :: (6, .land, []) :: (7, .lstore 6, []) :: (9, .lload_n 0, []) :: (10, .invokestatic 32, [0, 1]) :: (13, .lconst 0, [0]) :: (14, .lcmp, []) :: (15, .ifCond .eq 12, [27, 0]) :: (18, .lload_n 2, []) :: (19, .invokestatic 32, [0, 1]) :: (22, .lconst 0, [0]) :: (23, .lcmp, []) :: (24, .ifCond .ne 24, [48, 0]) :: (27, .nop, [0]) :: []
def p_X0_fused_0 : List (List (Nat × Nat)) := [] :: [] :: [] :: [(2, 155)] :: [] :: [] :: [] :: [(2, 178)] :: [] :: [] :: [] :: [] :: [(2, 178)] :: [] :: [] :: [] :: [] :: []
def bl_X0_fused : List (Nat × List zE) := [(0, b_X0_fused_0), (27, b_X0_fused_27), (45, b_X0_fused_45), (47, b_X0_fused_47), (48, b_X0_fused_48), (148, b_X0_fused_148), (153, b_X0_fused_153), (158, b_X0_fused_158), (182, b_X0_fused_182), (188, b_X0_fused_188), (197, b_X0_fused_197), (232, b_X0_fused_232), (233, b_X0_fused_233), (241, b_X0_fused_241), (259, b_X0_fused_259), (260, b_X0_fused_260), (272, b_X0_fused_272), (301, b_X0_fused_301), (302, b_X0_fused_302), (314, b_X0_fused_314), (339, b_X0_fused_339), (350, b_X0_fused_350), (351, b_X0_fused_351), (360, b_X0_fused_360), (361, b_X0_fused_361), (381, b_X0_fused_381), (395, b_X0_fused_395), (408, b_X0_fused_408), (409, b_X0_fused_409), (425, b_X0_fused_425), (426, b_X0_fused_426)]
def pl_X0_fused : List (List (List (Nat × Nat))) := [p_X0_fused_0, p_X0_fused_27, p_X0_fused_45, p_X0_fused_47, p_X0_fused_48, p_X0_fused_148, p_X0_fused_153, p_X0_fused_158, p_X0_fused_182, p_X0_fused_188, p_X0_fused_197, p_X0_fused_232, p_X0_fused_233, p_X0_fused_241, p_X0_fused_259, p_X0_fused_260, p_X0_fused_272, p_X0_fused_301, p_X0_fused_302, p_X0_fused_314, p_X0_fused_339, p_X0_fused_350, p_X0_fused_351, p_X0_fused_360, p_X0_fused_361, p_X0_fused_381, p_X0_fused_395, p_X0_fused_408, p_X0_fused_409, p_X0_fused_425, p_X0_fused_426]
theorem k_X0_fused_0 : zlk 0 bl_X0_fused = b_X0_fused_0 := rfl
theorem k_X0_fused_27 : zlk 27 bl_X0_fused = b_X0_fused_27 := rfl
theorem k_X0_fused_45 : zlk 45 bl_X0_fused = b_X0_fused_45 := rfl
theorem k_X0_fused_47 : zlk 47 bl_X0_fused = b_X0_fused_47 := rfl
theorem k_X0_fused_48 : zlk 48 bl_X0_fused = b_X0_fused_48 := rfl
theorem k_X0_fused_148 : zlk 148 bl_X0_fused = b_X0_fused_148 := rfl
theorem k_X0_fused_153 : zlk 153 bl_X0_fused = b_X0_fused_153 := rfl
theorem k_X0_fused_158 : zlk 158 bl_X0_fused = b_X0_fused_158 := rfl
theorem k_X0_fused_182 : zlk 182 bl_X0_fused = b_X0_fused_182 := rfl
theorem k_X0_fused_188 : zlk 188 bl_X0_fused = b_X0_fused_188 := rfl
theorem k_X0_fused_197 : zlk 197 bl_X0_fused = b_X0_fused_197 := rfl
theorem k_X0_fused_232 : zlk 232 bl_X0_fused = b_X0_fused_232 := rfl
theorem k_X0_fused_233 : zlk 233 bl_X0_fused = b_X0_fused_233 := rfl
theorem k_X0_fused_241 : zlk 241 bl_X0_fused = b_X0_fused_241 := rfl
theorem k_X0_fused_259 : zlk 259 bl_X0_fused = b_X0_fused_259 := rfl
theorem k_X0_fused_260 : zlk 260 bl_X0_fused = b_X0_fused_260 := rfl
theorem k_X0_fused_272 : zlk 272 bl_X0_fused = b_X0_fused_272 := rfl
theorem k_X0_fused_301 : zlk 301 bl_X0_fused = b_X0_fused_301 := rfl
theorem k_X0_fused_302 : zlk 302 bl_X0_fused = b_X0_fused_302 := rfl
theorem k_X0_fused_314 : zlk 314 bl_X0_fused = b_X0_fused_314 := rfl
theorem k_X0_fused_339 : zlk 339 bl_X0_fused = b_X0_fused_339 := rfl
theorem k_X0_fused_350 : zlk 350 bl_X0_fused = b_X0_fused_350 := rfl
theorem k_X0_fused_351 : zlk 351 bl_X0_fused = b_X0_fused_351 := rfl
theorem k_X0_fused_360 : zlk 360 bl_X0_fused = b_X0_fused_360 := rfl
theorem k_X0_fused_361 : zlk 361 bl_X0_fused = b_X0_fused_361 := rfl
theorem k_X0_fused_381 : zlk 381 bl_X0_fused = b_X0_fused_381 := rfl
theorem k_X0_fused_395 : zlk 395 bl_X0_fused = b_X0_fused_395 := rfl
theorem k_X0_fused_408 : zlk 408 bl_X0_fused = b_X0_fused_408 := rfl
theorem k_X0_fused_409 : zlk 409 bl_X0_fused = b_X0_fused_409 := rfl
theorem k_X0_fused_425 : zlk 425 bl_X0_fused = b_X0_fused_425 := rfl
theorem k_X0_fused_426 : zlk 426 bl_X0_fused = b_X0_fused_426 := rfl
set_option maxRecDepth 100000 in
theorem ck_X0_fused : zall q_X0_fused.2.2.2.2.1 q_X0_fused.2.1 0 false q_X0_fused.2.2.1 cal_X0_fused q_X0_fused.2.2.2.1 bl_X0_fused pl_X0_fused = true := by decide +kernel
theorem nm_X0_fused : plainName q_X0_fused.1.cls = true ∧ zRX 0 = q_X0_fused.1.cls ∧ (false = true → q_X0_fused.1.name = "<init>") := ⟨by decide +kernel, rfl, fun h => by first | rfl | cases h⟩
set_option maxRecDepth 100000 in
theorem wd_X0_less : zwd q_X0_less := ⟨zw_in (p := (2, 230)) (by decide +kernel), zw_in (p := (1, 12)) (by decide +kernel), fun _ => zw_in (p := (2, 229)) (by decide +kernel), fun h => absurd rfl h, fun h => absurd h (by decide)⟩
def cal_X0_less : List zCal := [q_X0_fused, q_X0_times, q_X0_finite, q_X0_plus]
def b_X0_less_48 : List zE := (48, .lreturn, []) :: []
def p_X0_less_48 : List (List (Nat × Nat)) := [] :: []
def b_X0_less_46 : List zE := (46, .lload 7, []) :: (48, .nop, [0]) :: []
def p_X0_less_46 : List (List (Nat × Nat)) := [] :: [] :: []
def b_X0_less_17 : List zE := (17, .lload_n 2, []) :: (18, .lload 4, []) :: (20, .invokestatic 78, [1, 2]) :: (23, .lstore 7, []) :: (25, .lload 7, []) :: (27, .invokestatic 40, [2, 1]) :: (30, .ifCond .eq 16, [46, 0]) :: (33, .lload_n 0, []) :: (34, .lload 7, []) :: (36, .ldc2_w 15, [9223372036854775808]) :: (39, .lxor, []) :: (40, .invokestatic 81, [3, 2]) :: (43, .goto 5, [48, 0]) :: []
def p_X0_less_17 : List (List (Nat × Nat)) := [] :: [] :: [(3, 11)] :: [] :: [] :: [(3, 14)] :: [] :: [] :: [] :: [(2, 155)] :: [] :: [(3, 15)] :: [] :: []
def b_X0_less_0 : List zE := (0, .iload 6, []) :: (2, .ifCond .eq 15, [17, 0]) :: (5, .lload_n 2, []) :: (6, .ldc2_w 15, [9223372036854775808]) :: (9, .lxor, []) :: (10, .lload 4, []) :: (12, .lload_n 0, []) :: (13, .invokestatic 74, [0, 3]) :: (16, .lreturn, []) :: []
def p_X0_less_0 : List (List (Nat × Nat)) := [] :: [] :: [] :: [(2, 155)] :: [] :: [] :: [] :: [(2, 231)] :: [] :: []
def bl_X0_less : List (Nat × List zE) := [(0, b_X0_less_0), (17, b_X0_less_17), (46, b_X0_less_46), (48, b_X0_less_48)]
def pl_X0_less : List (List (List (Nat × Nat))) := [p_X0_less_0, p_X0_less_17, p_X0_less_46, p_X0_less_48]
theorem k_X0_less_0 : zlk 0 bl_X0_less = b_X0_less_0 := rfl
theorem k_X0_less_17 : zlk 17 bl_X0_less = b_X0_less_17 := rfl
theorem k_X0_less_46 : zlk 46 bl_X0_less = b_X0_less_46 := rfl
theorem k_X0_less_48 : zlk 48 bl_X0_less = b_X0_less_48 := rfl
set_option maxRecDepth 100000 in
theorem ck_X0_less : zall q_X0_less.2.2.2.2.1 q_X0_less.2.1 0 false q_X0_less.2.2.1 cal_X0_less q_X0_less.2.2.2.1 bl_X0_less pl_X0_less = true := by decide +kernel
theorem nm_X0_less : plainName q_X0_less.1.cls = true ∧ zRX 0 = q_X0_less.1.cls ∧ (false = true → q_X0_less.1.name = "<init>") := ⟨by decide +kernel, rfl, fun h => by first | rfl | cases h⟩
set_option maxRecDepth 100000 in
theorem wd_X9_init : zwd q_X9_init := ⟨zw_in (p := (1, 94)) (by decide +kernel), zw_in (p := (1, 5)) (by decide +kernel), fun h => absurd h (by decide), fun _ => zw_in (p := (1, 93)) (by decide +kernel), fun h => absurd h (by decide)⟩
def cal_X9_init : List zCal := []
def b_X9_init_16 : List zE := (16, .newarray .int, [20]) :: (18, .putfield 9, [9, 0]) :: (21, .return_, []) :: []
def p_X9_init_16 : List (List (Nat × Nat)) := [(1, 108)] :: [(1, 96)] :: [] :: []
def b_X9_init_14 : List zE := (14, .bipush 28, [28]) :: (16, .nop, [0]) :: []
def p_X9_init_14 : List (List (Nat × Nat)) := [] :: [] :: []
def b_X9_init_0 : List zE := (0, .aload_n 0, []) :: (1, .invokespecial 1, []) :: (4, .aload_n 0, []) :: (5, .iload_n 1, []) :: (6, .ifCond .eq 8, [14, 0]) :: (9, .bipush 56, [56]) :: (11, .goto 5, [16, 0]) :: []
def p_X9_init_0 : List (List (Nat × Nat)) := [] :: [(1, 95), (1, 21), (1, 22)] :: [] :: [] :: [] :: [] :: [] :: []
def bl_X9_init : List (Nat × List zE) := [(0, b_X9_init_0), (14, b_X9_init_14), (16, b_X9_init_16)]
def pl_X9_init : List (List (List (Nat × Nat))) := [p_X9_init_0, p_X9_init_14, p_X9_init_16]
theorem k_X9_init_0 : zlk 0 bl_X9_init = b_X9_init_0 := rfl
theorem k_X9_init_14 : zlk 14 bl_X9_init = b_X9_init_14 := rfl
theorem k_X9_init_16 : zlk 16 bl_X9_init = b_X9_init_16 := rfl
set_option maxRecDepth 100000 in
theorem ck_X9_init : zall q_X9_init.2.2.2.2.1 q_X9_init.2.1 9 true q_X9_init.2.2.1 cal_X9_init q_X9_init.2.2.2.1 bl_X9_init pl_X9_init = true := by decide +kernel
theorem nm_X9_init : plainName q_X9_init.1.cls = true ∧ zRX 9 = q_X9_init.1.cls ∧ (true = true → q_X9_init.1.name = "<init>") := ⟨by decide +kernel, rfl, fun h => by first | rfl | cases h⟩
set_option maxRecDepth 100000 in
theorem wd_X1_init : zwd q_X1_init := ⟨zw_in (p := (1, 87)) (by decide +kernel), zw_in (p := (1, 4)) (by decide +kernel), fun h => absurd h (by decide), fun _ => zw_in (p := (1, 86)) (by decide +kernel), fun h => absurd h (by decide)⟩
def cal_X1_init : List zCal := [q_X9_init]
def b_X1_init_109 : List zE := (109, .return_, []) :: []
def p_X1_init_109 : List (List (Nat × Nat)) := [] :: []
def b_X1_init_80 : List zE := (80, .iload_n 1, []) :: (81, .aload_n 0, []) :: (82, .getfield 13, [1, 0]) :: (85, .arraylength, []) :: (86, .if_icmp .ge 23, [109, 0]) :: (89, .aload_n 0, []) :: (90, .getfield 13, [1, 0]) :: (93, .iload_n 1, []) :: (94, .new 11, [9]) :: (97, .dup, []) :: (98, .iconst 0, [0]) :: (99, .invokespecial 17, [0, 1]) :: (102, .aastore, []) :: (103, .iinc 1 1, [1]) :: (106, .goto (-26), [80, 1]) :: []
def p_X1_init_80 : List (List (Nat × Nat)) := [] :: [] :: [(1, 109)] :: [] :: [] :: [] :: [(1, 109)] :: [] :: [(1, 89), (1, 91), (1, 5)] :: [] :: [] :: [(1, 92)] :: [] :: [] :: [] :: []
def b_X1_init_0 : List zE := (0, .aload_n 0, []) :: (1, .invokespecial 3, []) :: (4, .aload_n 0, []) :: (5, .sipush 128, [128]) :: (8, .anewarray 11, [27]) :: (11, .putfield 13, [1, 0]) :: (14, .aload_n 0, []) :: (15, .new 11, [9]) :: (18, .dup, []) :: (19, .iconst 1, [1]) :: (20, .invokespecial 17, [0, 1]) :: (23, .putfield 20, [1, 1]) :: (26, .aload_n 0, []) :: (27, .new 11, [9]) :: (30, .dup, []) :: (31, .iconst 1, [1]) :: (32, .invokespecial 17, [0, 1]) :: (35, .putfield 24, [1, 2]) :: (38, .aload_n 0, []) :: (39, .new 11, [9]) :: (42, .dup, []) :: (43, .iconst 1, [1]) :: (44, .invokespecial 17, [0, 1]) :: (47, .putfield 27, [1, 3]) :: (50, .aload_n 0, []) :: (51, .new 11, [9]) :: (54, .dup, []) :: (55, .iconst 0, [0]) :: (56, .invokespecial 17, [0, 1]) :: (59, .putfield 30, [1, 4]) :: (62, .aload_n 0, []) :: (63, .bipush 8, [8]) :: (65, .newarray .int, [20]) :: (67, .putfield 33, [1, 5]) :: (70, .aload_n 0, []) :: (71, .bipush 8, [8]) :: (73, .newarray .boolean, [21]) :: (75, .putfield 37, [1, 6]) :: (78, .iconst 0, [0]) :: (79, .istore_n 1, []) :: (80, .nop, []) :: []
def p_X1_init_0 : List (List (Nat × Nat)) := [] :: [(1, 88), (1, 21), (1, 22)] :: [] :: [] :: [(1, 89)] :: [(1, 109)] :: [] :: [(1, 89), (1, 91), (1, 5)] :: [] :: [] :: [(1, 92)] :: [(1, 110)] :: [] :: [(1, 89), (1, 91), (1, 5)] :: [] :: [] :: [(1, 92)] :: [(1, 111)] :: [] :: [(1, 89), (1, 91), (1, 5)] :: [] :: [] :: [(1, 92)] :: [(1, 112)] :: [] :: [(1, 89), (1, 91), (1, 5)] :: [] :: [] :: [(1, 92)] :: [(1, 113)] :: [] :: [] :: [(1, 108)] :: [(1, 114)] :: [] :: [] :: [(1, 155)] :: [(1, 115)] :: [] :: [] :: [] :: []
def bl_X1_init : List (Nat × List zE) := [(0, b_X1_init_0), (80, b_X1_init_80), (109, b_X1_init_109)]
def pl_X1_init : List (List (List (Nat × Nat))) := [p_X1_init_0, p_X1_init_80, p_X1_init_109]
theorem k_X1_init_0 : zlk 0 bl_X1_init = b_X1_init_0 := rfl
theorem k_X1_init_80 : zlk 80 bl_X1_init = b_X1_init_80 := rfl
theorem k_X1_init_109 : zlk 109 bl_X1_init = b_X1_init_109 := rfl
set_option maxRecDepth 100000 in
theorem ck_X1_init : zall q_X1_init.2.2.2.2.1 q_X1_init.2.1 1 true q_X1_init.2.2.1 cal_X1_init q_X1_init.2.2.2.1 bl_X1_init pl_X1_init = true := by decide +kernel
theorem nm_X1_init : plainName q_X1_init.1.cls = true ∧ zRX 1 = q_X1_init.1.cls ∧ (true = true → q_X1_init.1.name = "<init>") := ⟨by decide +kernel, rfl, fun h => by first | rfl | cases h⟩
set_option maxRecDepth 100000 in
theorem wd_X1_at : zwd q_X1_at := ⟨zw_in (p := (4, 100)) (by decide +kernel), zw_in (p := (1, 4)) (by decide +kernel), fun h => absurd h (by decide), fun _ => zw_in (p := (4, 99)) (by decide +kernel), fun _ => zw_in (p := (0, 24)) (by decide +kernel)⟩
def cal_X1_at : List zCal := []
def b_X1_at_35 : List zE := (35, .areturn, []) :: []
def p_X1_at_35 : List (List (Nat × Nat)) := [] :: []
def b_X1_at_29 : List zE := (29, .aload_n 0, []) :: (30, .getfield 13, [1, 0]) :: (33, .iconst 0, [0]) :: (34, .aaload, []) :: (35, .nop, [0]) :: []
def p_X1_at_29 : List (List (Nat × Nat)) := [] :: [(1, 109)] :: [] :: [] :: [] :: []
def b_X1_at_0 : List zE := (0, .iload_n 1, []) :: (1, .bipush 16, [16]) :: (3, .imul, []) :: (4, .iload_n 2, []) :: (5, .iadd, []) :: (6, .istore_n 3, []) :: (7, .iload_n 3, []) :: (8, .ifCond .lt 21, [29, 0]) :: (11, .iload_n 3, []) :: (12, .aload_n 0, []) :: (13, .getfield 13, [1, 0]) :: (16, .arraylength, []) :: (17, .if_icmp .ge 12, [29, 0]) :: (20, .aload_n 0, []) :: (21, .getfield 13, [1, 0]) :: (24, .iload_n 3, []) :: (25, .aaload, []) :: (26, .goto 9, [35, 0]) :: []
def p_X1_at_0 : List (List (Nat × Nat)) := [] :: [] :: [] :: [] :: [] :: [] :: [] :: [] :: [] :: [] :: [(1, 109)] :: [] :: [] :: [] :: [(1, 109)] :: [] :: [] :: [] :: []
def bl_X1_at : List (Nat × List zE) := [(0, b_X1_at_0), (29, b_X1_at_29), (35, b_X1_at_35)]
def pl_X1_at : List (List (List (Nat × Nat))) := [p_X1_at_0, p_X1_at_29, p_X1_at_35]
theorem k_X1_at_0 : zlk 0 bl_X1_at = b_X1_at_0 := rfl
theorem k_X1_at_29 : zlk 29 bl_X1_at = b_X1_at_29 := rfl
theorem k_X1_at_35 : zlk 35 bl_X1_at = b_X1_at_35 := rfl
set_option maxRecDepth 100000 in
theorem ck_X1_at : zall q_X1_at.2.2.2.2.1 q_X1_at.2.1 1 false q_X1_at.2.2.1 cal_X1_at q_X1_at.2.2.2.1 bl_X1_at pl_X1_at = true := by decide +kernel
theorem nm_X1_at : plainName q_X1_at.1.cls = true ∧ zRX 1 = q_X1_at.1.cls ∧ (false = true → q_X1_at.1.name = "<init>") := ⟨by decide +kernel, rfl, fun h => by first | rfl | cases h⟩
set_option maxRecDepth 100000 in
theorem wd_X3_inside : zwd q_X3_inside := ⟨zw_in (p := (2, 130)) (by decide +kernel), zw_in (p := (1, 8)) (by decide +kernel), fun h => absurd h (by decide), fun _ => zw_in (p := (2, 128)) (by decide +kernel), fun _ => zw_in (p := (2, 129)) (by decide +kernel)⟩
def cal_X3_inside : List zCal := []
def b_X3_inside_29 : List zE := (29, .ireturn, []) :: []
def p_X3_inside_29 : List (List (Nat × Nat)) := [] :: []
def b_X3_inside_28 : List zE := (28, .iconst 0, [0]) :: (29, .nop, [0]) :: []
def p_X3_inside_28 : List (List (Nat × Nat)) := [] :: [] :: []
def b_X3_inside_0 : List zE := (0, .iload_n 1, []) :: (1, .ifCond .lt 27, [28, 0]) :: (4, .iload_n 1, []) :: (5, .aload_n 0, []) :: (6, .getfield 19, [3, 2]) :: (9, .if_icmp .ge 19, [28, 0]) :: (12, .iload_n 2, []) :: (13, .ifCond .lt 15, [28, 0]) :: (16, .iload_n 2, []) :: (17, .aload_n 0, []) :: (18, .getfield 22, [3, 3]) :: (21, .if_icmp .ge 7, [28, 0]) :: (24, .iconst 1, [1]) :: (25, .goto 4, [29, 0]) :: []
def p_X3_inside_0 : List (List (Nat × Nat)) := [] :: [] :: [] :: [] :: [(1, 216)] :: [] :: [] :: [] :: [] :: [] :: [(1, 223)] :: [] :: [] :: [] :: []
def bl_X3_inside : List (Nat × List zE) := [(0, b_X3_inside_0), (28, b_X3_inside_28), (29, b_X3_inside_29)]
def pl_X3_inside : List (List (List (Nat × Nat))) := [p_X3_inside_0, p_X3_inside_28, p_X3_inside_29]
theorem k_X3_inside_0 : zlk 0 bl_X3_inside = b_X3_inside_0 := rfl
theorem k_X3_inside_28 : zlk 28 bl_X3_inside = b_X3_inside_28 := rfl
theorem k_X3_inside_29 : zlk 29 bl_X3_inside = b_X3_inside_29 := rfl
set_option maxRecDepth 100000 in
theorem ck_X3_inside : zall q_X3_inside.2.2.2.2.1 q_X3_inside.2.1 3 false q_X3_inside.2.2.1 cal_X3_inside q_X3_inside.2.2.2.1 bl_X3_inside pl_X3_inside = true := by decide +kernel
theorem nm_X3_inside : plainName q_X3_inside.1.cls = true ∧ zRX 3 = q_X3_inside.1.cls ∧ (false = true → q_X3_inside.1.name = "<init>") := ⟨by decide +kernel, rfl, fun h => by first | rfl | cases h⟩
set_option maxRecDepth 100000 in
theorem wd_X3_at : zwd q_X3_at := ⟨zw_in (p := (2, 142)) (by decide +kernel), zw_in (p := (1, 8)) (by decide +kernel), fun h => absurd h (by decide), fun _ => zw_in (p := (2, 140)) (by decide +kernel), fun _ => zw_in (p := (2, 141)) (by decide +kernel)⟩
def cal_X3_at : List zCal := [q_X3_inside]
def b_X3_at_24 : List zE := (24, .lreturn, []) :: []
def p_X3_at_24 : List (List (Nat × Nat)) := [] :: []
def b_X3_at_23 : List zE := (23, .lconst 0, [0]) :: (24, .nop, [0]) :: []
def p_X3_at_23 : List (List (Nat × Nat)) := [] :: [] :: []
def b_X3_at_0 : List zE := (0, .aload_n 0, []) :: (1, .iload_n 1, []) :: (2, .iload_n 2, []) :: (3, .invokevirtual 31, [0, 2, 3]) :: (6, .ifCond .eq 17, [23, 0]) :: (9, .aload_n 0, []) :: (10, .getfield 9, [3, 6]) :: (13, .iload_n 1, []) :: (14, .bipush 8, [8]) :: (16, .imul, []) :: (17, .iload_n 2, []) :: (18, .iadd, []) :: (19, .laload, []) :: (20, .goto 4, [24, 0]) :: []
def p_X3_at_0 : List (List (Nat × Nat)) := [] :: [] :: [] :: [(2, 127)] :: [] :: [] :: [(1, 232)] :: [] :: [] :: [] :: [] :: [] :: [] :: [] :: []
def bl_X3_at : List (Nat × List zE) := [(0, b_X3_at_0), (23, b_X3_at_23), (24, b_X3_at_24)]
def pl_X3_at : List (List (List (Nat × Nat))) := [p_X3_at_0, p_X3_at_23, p_X3_at_24]
theorem k_X3_at_0 : zlk 0 bl_X3_at = b_X3_at_0 := rfl
theorem k_X3_at_23 : zlk 23 bl_X3_at = b_X3_at_23 := rfl
theorem k_X3_at_24 : zlk 24 bl_X3_at = b_X3_at_24 := rfl
set_option maxRecDepth 100000 in
theorem ck_X3_at : zall q_X3_at.2.2.2.2.1 q_X3_at.2.1 3 false q_X3_at.2.2.1 cal_X3_at q_X3_at.2.2.2.1 bl_X3_at pl_X3_at = true := by decide +kernel
theorem nm_X3_at : plainName q_X3_at.1.cls = true ∧ zRX 3 = q_X3_at.1.cls ∧ (false = true → q_X3_at.1.name = "<init>") := ⟨by decide +kernel, rfl, fun h => by first | rfl | cases h⟩
set_option maxRecDepth 100000 in
theorem wd_X1_lowerUnit : zwd q_X1_lowerUnit := ⟨zw_in (p := (4, 92)) (by decide +kernel), zw_in (p := (1, 4)) (by decide +kernel), fun h => absurd h (by decide), fun _ => zw_in (p := (4, 91)) (by decide +kernel), fun _ => zw_in (p := (0, 23)) (by decide +kernel)⟩
def cal_X1_lowerUnit : List zCal := [q_X0_mantissa, q_X0_scale, q_X0_lowestBit]
def b_X1_lowerUnit_31 : List zE := (31, .return_, []) :: []
def p_X1_lowerUnit_31 : List (List (Nat × Nat)) := [] :: []
def b_X1_lowerUnit_0 : List zE := (0, .lload_n 1, []) :: (1, .invokestatic 73, [0, 1]) :: (4, .lstore_n 3, []) :: (5, .lload_n 3, []) :: (6, .lconst 0, [0]) :: (7, .lcmp, []) :: (8, .ifCond .eq 23, [31, 0]) :: (11, .aload_n 0, []) :: (12, .aload_n 0, []) :: (13, .getfield 55, [1, 10]) :: (16, .lload_n 1, []) :: (17, .invokestatic 79, [1, 1]) :: (20, .lload_n 3, []) :: (21, .invokestatic 83, [2, 1]) :: (24, .iadd, []) :: (25, .invokestatic 86, [103]) :: (28, .putfield 55, [1, 10]) :: (31, .nop, [0]) :: []
def p_X1_lowerUnit_0 : List (List (Nat × Nat)) := [] :: [(4, 93)] :: [] :: [] :: [] :: [] :: [] :: [] :: [] :: [(1, 119)] :: [] :: [(4, 94)] :: [] :: [(4, 95)] :: [] :: [(4, 96), (4, 1), (1, 14), (4, 2)] :: [(1, 119)] :: [] :: []
def bl_X1_lowerUnit : List (Nat × List zE) := [(0, b_X1_lowerUnit_0), (31, b_X1_lowerUnit_31)]
def pl_X1_lowerUnit : List (List (List (Nat × Nat))) := [p_X1_lowerUnit_0, p_X1_lowerUnit_31]
theorem k_X1_lowerUnit_0 : zlk 0 bl_X1_lowerUnit = b_X1_lowerUnit_0 := rfl
theorem k_X1_lowerUnit_31 : zlk 31 bl_X1_lowerUnit = b_X1_lowerUnit_31 := rfl
set_option maxRecDepth 100000 in
theorem ck_X1_lowerUnit : zall q_X1_lowerUnit.2.2.2.2.1 q_X1_lowerUnit.2.1 1 false q_X1_lowerUnit.2.2.1 cal_X1_lowerUnit q_X1_lowerUnit.2.2.2.1 bl_X1_lowerUnit pl_X1_lowerUnit = true := by decide +kernel
theorem nm_X1_lowerUnit : plainName q_X1_lowerUnit.1.cls = true ∧ zRX 1 = q_X1_lowerUnit.1.cls ∧ (false = true → q_X1_lowerUnit.1.name = "<init>") := ⟨by decide +kernel, rfl, fun h => by first | rfl | cases h⟩
set_option maxRecDepth 100000 in
theorem wd_X9_zero : zwd q_X9_zero := ⟨zw_in (p := (4, 108)) (by decide +kernel), zw_in (p := (1, 5)) (by decide +kernel), fun h => absurd h (by decide), fun _ => zw_in (p := (4, 106)) (by decide +kernel), fun _ => zw_in (p := (4, 107)) (by decide +kernel)⟩
def cal_X9_zero : List zCal := []
def b_X9_zero_0 : List zE := (0, .aload_n 0, []) :: (1, .iconst 0, [0]) :: (2, .putfield 13, [9, 1]) :: (5, .aload_n 0, []) :: (6, .iconst 0, [0]) :: (7, .putfield 17, [9, 2]) :: (10, .return_, []) :: []
def p_X9_zero_0 : List (List (Nat × Nat)) := [] :: [] :: [(1, 97)] :: [] :: [] :: [(1, 99)] :: [] :: []
def bl_X9_zero : List (Nat × List zE) := [(0, b_X9_zero_0)]
def pl_X9_zero : List (List (List (Nat × Nat))) := [p_X9_zero_0]
theorem k_X9_zero_0 : zlk 0 bl_X9_zero = b_X9_zero_0 := rfl
set_option maxRecDepth 100000 in
theorem ck_X9_zero : zall q_X9_zero.2.2.2.2.1 q_X9_zero.2.1 9 false q_X9_zero.2.2.1 cal_X9_zero q_X9_zero.2.2.2.1 bl_X9_zero pl_X9_zero = true := by decide +kernel
theorem nm_X9_zero : plainName q_X9_zero.1.cls = true ∧ zRX 9 = q_X9_zero.1.cls ∧ (false = true → q_X9_zero.1.name = "<init>") := ⟨by decide +kernel, rfl, fun h => by first | rfl | cases h⟩
set_option maxRecDepth 100000 in
theorem wd_X9_trim : zwd q_X9_trim := ⟨zw_in (p := (4, 117)) (by decide +kernel), zw_in (p := (1, 5)) (by decide +kernel), fun h => absurd h (by decide), fun _ => zw_in (p := (4, 116)) (by decide +kernel), fun _ => zw_in (p := (0, 26)) (by decide +kernel)⟩
def cal_X9_trim : List zCal := []
def b_X9_trim_46 : List zE := (46, .return_, []) :: []
def p_X9_trim_46 : List (List (Nat × Nat)) := [] :: []
def b_X9_trim_34 : List zE := (34, .aload_n 0, []) :: (35, .getfield 13, [9, 1]) :: (38, .ifCond .ne 8, [46, 0]) :: (41, .aload_n 0, []) :: (42, .iconst 0, [0]) :: (43, .putfield 17, [9, 2]) :: (46, .nop, [0]) :: []
def p_X9_trim_34 : List (List (Nat × Nat)) := [] :: [(1, 97)] :: [] :: [] :: [] :: [(1, 99)] :: [] :: []
def b_X9_trim_0 : List zE := (0, .aload_n 0, []) :: (1, .getfield 13, [9, 1]) :: (4, .ifCond .le 30, [34, 0]) :: (7, .aload_n 0, []) :: (8, .getfield 9, [9, 0]) :: (11, .aload_n 0, []) :: (12, .getfield 13, [9, 1]) :: (15, .iconst 1, [1]) :: (16, .isub, []) :: (17, .iaload, []) :: (18, .ifCond .ne 16, [34, 0]) :: (21, .aload_n 0, []) :: (22, .dup, []) :: (23, .getfield 13, [9, 1]) :: (26, .iconst 1, [1]) :: (27, .isub, []) :: (28, .putfield 13, [9, 1]) :: (31, .goto (-31), [0, 1]) :: []
def p_X9_trim_0 : List (List (Nat × Nat)) := [] :: [(1, 97)] :: [] :: [] :: [(1, 96)] :: [] :: [(1, 97)] :: [] :: [] :: [] :: [] :: [] :: [] :: [(1, 97)] :: [] :: [] :: [(1, 97)] :: [] :: []
def bl_X9_trim : List (Nat × List zE) := [(0, b_X9_trim_0), (34, b_X9_trim_34), (46, b_X9_trim_46)]
def pl_X9_trim : List (List (List (Nat × Nat))) := [p_X9_trim_0, p_X9_trim_34, p_X9_trim_46]
theorem k_X9_trim_0 : zlk 0 bl_X9_trim = b_X9_trim_0 := rfl
theorem k_X9_trim_34 : zlk 34 bl_X9_trim = b_X9_trim_34 := rfl
theorem k_X9_trim_46 : zlk 46 bl_X9_trim = b_X9_trim_46 := rfl
set_option maxRecDepth 100000 in
theorem ck_X9_trim : zall q_X9_trim.2.2.2.2.1 q_X9_trim.2.1 9 false q_X9_trim.2.2.1 cal_X9_trim q_X9_trim.2.2.2.1 bl_X9_trim pl_X9_trim = true := by decide +kernel
theorem nm_X9_trim : plainName q_X9_trim.1.cls = true ∧ zRX 9 = q_X9_trim.1.cls ∧ (false = true → q_X9_trim.1.name = "<init>") := ⟨by decide +kernel, rfl, fun h => by first | rfl | cases h⟩
set_option maxRecDepth 100000 in
theorem wd_X9_shiftUp : zwd q_X9_shiftUp := ⟨zw_in (p := (4, 121)) (by decide +kernel), zw_in (p := (1, 5)) (by decide +kernel), fun h => absurd h (by decide), fun _ => zw_in (p := (4, 119)) (by decide +kernel), fun _ => zw_in (p := (4, 120)) (by decide +kernel)⟩
def cal_X9_shiftUp : List zCal := [q_X9_trim]
def b_X9_shiftUp_139 : List zE := (139, .aload_n 0, []) :: (140, .dup, []) :: (141, .getfield 13, [9, 1]) :: (144, .iload_n 2, []) :: (145, .iconst 1, [1]) :: (146, .iadd, []) :: (147, .iadd, []) :: (148, .putfield 13, [9, 1]) :: (151, .aload_n 0, []) :: (152, .invokevirtual 23, [0, 0, 9]) :: (155, .return_, []) :: []
def p_X9_shiftUp_139 : List (List (Nat × Nat)) := [] :: [] :: [(1, 97)] :: [] :: [] :: [] :: [] :: [(1, 97)] :: [] :: [(4, 114)] :: [] :: []
def b_X9_shiftUp_119 : List zE := (119, .iload 4, []) :: (121, .iload_n 2, []) :: (122, .if_icmp .ge 17, [139, 0]) :: (125, .aload_n 0, []) :: (126, .getfield 9, [9, 0]) :: (129, .iload 4, []) :: (131, .iconst 0, [0]) :: (132, .iastore, []) :: (133, .iinc 4 1, [1]) :: (136, .goto (-17), [119, 1]) :: []
def p_X9_shiftUp_119 : List (List (Nat × Nat)) := [] :: [] :: [] :: [] :: [(1, 96)] :: [] :: [] :: [] :: [] :: [] :: []
def b_X9_shiftUp_116 : List zE := (116, .iconst 0, [0]) :: (117, .istore 4, []) :: (119, .nop, []) :: []
def p_X9_shiftUp_116 : List (List (Nat × Nat)) := [] :: [] :: [] :: []
def b_X9_shiftUp_57 : List zE := (57, .iload 4, []) :: (59, .ifCond .lt 57, [116, 0]) :: (62, .aload_n 0, []) :: (63, .getfield 9, [9, 0]) :: (66, .iload 4, []) :: (68, .iaload, []) :: (69, .i2l, []) :: (70, .ldc2_w 32, [4294967295]) :: (73, .land, []) :: (74, .iload_n 3, []) :: (75, .lshl, []) :: (76, .lstore 5, []) :: (78, .aload_n 0, []) :: (79, .getfield 9, [9, 0]) :: (82, .iload 4, []) :: (84, .iload_n 2, []) :: (85, .iadd, []) :: (86, .iconst 1, [1]) :: (87, .iadd, []) :: (88, .dup2, []) :: (89, .iaload, []) :: (90, .lload 5, []) :: (92, .bipush 32, [32]) :: (94, .lushr, []) :: (95, .l2i, []) :: (96, .ior, []) :: (97, .iastore, []) :: (98, .aload_n 0, []) :: (99, .getfield 9, [9, 0]) :: (102, .iload 4, []) :: (104, .iload_n 2, []) :: (105, .iadd, []) :: (106, .lload 5, []) :: (108, .l2i, []) :: (109, .iastore, []) :: (110, .iinc 4 (-1), [4294967295]) :: (113, .goto (-56), [57, 1]) :: []
def p_X9_shiftUp_57 : List (List (Nat × Nat)) := [] :: [] :: [] :: [(1, 96)] :: [] :: [] :: [] :: [(4, 122)] :: [] :: [] :: [] :: [] :: [] :: [(1, 96)] :: [] :: [] :: [] :: [] :: [] :: [] :: [] :: [] :: [] :: [] :: [] :: [] :: [] :: [] :: [(1, 96)] :: [] :: [] :: [] :: [] :: [] :: [] :: [] :: [] :: []
def b_X9_shiftUp_37 : List zE := (37, .aload_n 0, []) :: (38, .getfield 9, [9, 0]) :: (41, .aload_n 0, []) :: (42, .getfield 13, [9, 1]) :: (45, .iload_n 2, []) :: (46, .iadd, []) :: (47, .iconst 0, [0]) :: (48, .iastore, []) :: (49, .aload_n 0, []) :: (50, .getfield 13, [9, 1]) :: (53, .iconst 1, [1]) :: (54, .isub, []) :: (55, .istore 4, []) :: (57, .nop, []) :: []
def p_X9_shiftUp_37 : List (List (Nat × Nat)) := [] :: [(1, 96)] :: [] :: [(1, 97)] :: [] :: [] :: [] :: [] :: [] :: [(1, 97)] :: [] :: [] :: [] :: [] :: []
def b_X9_shiftUp_36 : List zE := (36, .return_, []) :: []
def p_X9_shiftUp_36 : List (List (Nat × Nat)) := [] :: []
def b_X9_shiftUp_0 : List zE := (0, .iload_n 1, []) :: (1, .iconst 5, [5]) :: (2, .ishr, []) :: (3, .istore_n 2, []) :: (4, .iload_n 1, []) :: (5, .bipush 31, [31]) :: (7, .iand, []) :: (8, .istore_n 3, []) :: (9, .aload_n 0, []) :: (10, .getfield 13, [9, 1]) :: (13, .ifCond .eq 23, [36, 0]) :: (16, .iload_n 1, []) :: (17, .ifCond .le 19, [36, 0]) :: (20, .aload_n 0, []) :: (21, .getfield 13, [9, 1]) :: (24, .iload_n 2, []) :: (25, .iadd, []) :: (26, .iconst 1, [1]) :: (27, .iadd, []) :: (28, .aload_n 0, []) :: (29, .getfield 9, [9, 0]) :: (32, .arraylength, []) :: (33, .if_icmp .le 4, [37, 0]) :: (36, .nop, [0]) :: []
def p_X9_shiftUp_0 : List (List (Nat × Nat)) := [] :: [] :: [] :: [] :: [] :: [] :: [] :: [] :: [] :: [(1, 97)] :: [] :: [] :: [] :: [] :: [(1, 97)] :: [] :: [] :: [] :: [] :: [] :: [(1, 96)] :: [] :: [] :: [] :: []
def bl_X9_shiftUp : List (Nat × List zE) := [(0, b_X9_shiftUp_0), (36, b_X9_shiftUp_36), (37, b_X9_shiftUp_37), (57, b_X9_shiftUp_57), (116, b_X9_shiftUp_116), (119, b_X9_shiftUp_119), (139, b_X9_shiftUp_139)]
def pl_X9_shiftUp : List (List (List (Nat × Nat))) := [p_X9_shiftUp_0, p_X9_shiftUp_36, p_X9_shiftUp_37, p_X9_shiftUp_57, p_X9_shiftUp_116, p_X9_shiftUp_119, p_X9_shiftUp_139]
theorem k_X9_shiftUp_0 : zlk 0 bl_X9_shiftUp = b_X9_shiftUp_0 := rfl
theorem k_X9_shiftUp_36 : zlk 36 bl_X9_shiftUp = b_X9_shiftUp_36 := rfl
theorem k_X9_shiftUp_37 : zlk 37 bl_X9_shiftUp = b_X9_shiftUp_37 := rfl
theorem k_X9_shiftUp_57 : zlk 57 bl_X9_shiftUp = b_X9_shiftUp_57 := rfl
theorem k_X9_shiftUp_116 : zlk 116 bl_X9_shiftUp = b_X9_shiftUp_116 := rfl
theorem k_X9_shiftUp_119 : zlk 119 bl_X9_shiftUp = b_X9_shiftUp_119 := rfl
theorem k_X9_shiftUp_139 : zlk 139 bl_X9_shiftUp = b_X9_shiftUp_139 := rfl
set_option maxRecDepth 100000 in
theorem ck_X9_shiftUp : zall q_X9_shiftUp.2.2.2.2.1 q_X9_shiftUp.2.1 9 false q_X9_shiftUp.2.2.1 cal_X9_shiftUp q_X9_shiftUp.2.2.2.1 bl_X9_shiftUp pl_X9_shiftUp = true := by decide +kernel
theorem nm_X9_shiftUp : plainName q_X9_shiftUp.1.cls = true ∧ zRX 9 = q_X9_shiftUp.1.cls ∧ (false = true → q_X9_shiftUp.1.name = "<init>") := ⟨by decide +kernel, rfl, fun h => by first | rfl | cases h⟩
set_option maxRecDepth 100000 in
theorem wd_X9_become : zwd q_X9_become := ⟨zw_in (p := (4, 112)) (by decide +kernel), zw_in (p := (1, 5)) (by decide +kernel), fun h => absurd h (by decide), fun _ => zw_in (p := (4, 110)) (by decide +kernel), fun _ => zw_in (p := (4, 111)) (by decide +kernel)⟩
def cal_X9_become : List zCal := [q_X9_zero, q_X9_trim, q_X9_shiftUp]
def b_X9_become_15 : List zE := (15, .aload_n 0, []) :: (16, .getfield 9, [9, 0]) :: (19, .iconst 0, [0]) :: (20, .lload_n 1, []) :: (21, .l2i, []) :: (22, .iastore, []) :: (23, .aload_n 0, []) :: (24, .getfield 9, [9, 0]) :: (27, .iconst 1, [1]) :: (28, .lload_n 1, []) :: (29, .bipush 32, [32]) :: (31, .lushr, []) :: (32, .l2i, []) :: (33, .iastore, []) :: (34, .aload_n 0, []) :: (35, .iconst 2, [2]) :: (36, .putfield 13, [9, 1]) :: (39, .aload_n 0, []) :: (40, .iload 4, []) :: (42, .putfield 17, [9, 2]) :: (45, .aload_n 0, []) :: (46, .invokevirtual 23, [1, 0, 9]) :: (49, .aload_n 0, []) :: (50, .iload_n 3, []) :: (51, .invokevirtual 26, [2, 1, 9]) :: (54, .return_, []) :: []
def p_X9_become_15 : List (List (Nat × Nat)) := [] :: [(1, 96)] :: [] :: [] :: [] :: [] :: [] :: [(1, 96)] :: [] :: [] :: [] :: [] :: [] :: [] :: [] :: [] :: [(1, 97)] :: [] :: [] :: [(1, 99)] :: [] :: [(4, 114)] :: [] :: [] :: [(4, 118)] :: [] :: []
def b_X9_become_14 : List zE := (14, .return_, []) :: []
def p_X9_become_14 : List (List (Nat × Nat)) := [] :: []
def b_X9_become_0 : List zE := (0, .aload_n 0, []) :: (1, .invokevirtual 20, [0, 0, 9]) :: (4, .lload_n 1, []) :: (5, .lconst 0, [0]) :: (6, .lcmp, []) :: (7, .ifCond .eq 7, [14, 0]) :: (10, .iload_n 3, []) :: (11, .ifCond .ge 4, [15, 0]) :: (14, .nop, [0]) :: []
def p_X9_become_0 : List (List (Nat × Nat)) := [] :: [(4, 113)] :: [] :: [] :: [] :: [] :: [] :: [] :: [] :: []
def bl_X9_become : List (Nat × List zE) := [(0, b_X9_become_0), (14, b_X9_become_14), (15, b_X9_become_15)]
def pl_X9_become : List (List (List (Nat × Nat))) := [p_X9_become_0, p_X9_become_14, p_X9_become_15]
theorem k_X9_become_0 : zlk 0 bl_X9_become = b_X9_become_0 := rfl
theorem k_X9_become_14 : zlk 14 bl_X9_become = b_X9_become_14 := rfl
theorem k_X9_become_15 : zlk 15 bl_X9_become = b_X9_become_15 := rfl
set_option maxRecDepth 100000 in
theorem ck_X9_become : zall q_X9_become.2.2.2.2.1 q_X9_become.2.1 9 false q_X9_become.2.2.1 cal_X9_become q_X9_become.2.2.2.1 bl_X9_become pl_X9_become = true := by decide +kernel
theorem nm_X9_become : plainName q_X9_become.1.cls = true ∧ zRX 9 = q_X9_become.1.cls ∧ (false = true → q_X9_become.1.name = "<init>") := ⟨by decide +kernel, rfl, fun h => by first | rfl | cases h⟩
set_option maxRecDepth 100000 in
theorem wd_X1_loadNumber : zwd q_X1_loadNumber := ⟨zw_in (p := (4, 104)) (by decide +kernel), zw_in (p := (1, 4)) (by decide +kernel), fun h => absurd h (by decide), fun _ => zw_in (p := (4, 103)) (by decide +kernel), fun _ => zw_in (p := (0, 25)) (by decide +kernel)⟩
def cal_X1_loadNumber : List zCal := [q_X0_mantissa, q_X0_scale, q_X9_zero, q_X9_become]
def b_X1_loadNumber_85 : List zE := (85, .return_, []) :: []
def p_X1_loadNumber_85 : List (List (Nat × Nat)) := [] :: []
def b_X1_loadNumber_82 : List zE := (82, .invokevirtual 95, [3, 3, 9]) :: (85, .nop, [0]) :: []
def p_X1_loadNumber_82 : List (List (Nat × Nat)) := [(4, 109)] :: [] :: []
def b_X1_loadNumber_81 : List zE := (81, .iconst 1, [1]) :: (82, .nop, [0]) :: []
def p_X1_loadNumber_81 : List (List (Nat × Nat)) := [] :: [] :: []
def b_X1_loadNumber_58 : List zE := (58, .aload_n 1, []) :: (59, .lload 4, []) :: (61, .iload 6, []) :: (63, .ineg, []) :: (64, .bipush 63, [63]) :: (66, .invokestatic 86, [103]) :: (69, .lushr, []) :: (70, .iconst 0, [0]) :: (71, .lload_n 2, []) :: (72, .lconst 0, [0]) :: (73, .lcmp, []) :: (74, .ifCond .ge 7, [81, 0]) :: (77, .iconst (-1), [4294967295]) :: (78, .goto 4, [82, 0]) :: []
def p_X1_loadNumber_58 : List (List (Nat × Nat)) := [] :: [] :: [] :: [] :: [] :: [(4, 96), (4, 1), (1, 14), (4, 2)] :: [] :: [] :: [] :: [] :: [] :: [] :: [] :: [] :: []
def b_X1_loadNumber_52 : List zE := (52, .invokevirtual 95, [3, 3, 9]) :: (55, .goto 30, [85, 0]) :: []
def p_X1_loadNumber_52 : List (List (Nat × Nat)) := [(4, 109)] :: [] :: []
def b_X1_loadNumber_51 : List zE := (51, .iconst 1, [1]) :: (52, .nop, [0]) :: []
def p_X1_loadNumber_51 : List (List (Nat × Nat)) := [] :: [] :: []
def b_X1_loadNumber_31 : List zE := (31, .iload 6, []) :: (33, .ifCond .lt 25, [58, 0]) :: (36, .aload_n 1, []) :: (37, .lload 4, []) :: (39, .iload 6, []) :: (41, .lload_n 2, []) :: (42, .lconst 0, [0]) :: (43, .lcmp, []) :: (44, .ifCond .ge 7, [51, 0]) :: (47, .iconst (-1), [4294967295]) :: (48, .goto 4, [52, 0]) :: []
def p_X1_loadNumber_31 : List (List (Nat × Nat)) := [] :: [] :: [] :: [] :: [] :: [] :: [] :: [] :: [] :: [] :: [] :: []
def b_X1_loadNumber_0 : List zE := (0, .lload_n 2, []) :: (1, .invokestatic 73, [0, 1]) :: (4, .lstore 4, []) :: (6, .lload_n 2, []) :: (7, .invokestatic 79, [1, 1]) :: (10, .aload_n 0, []) :: (11, .getfield 55, [1, 10]) :: (14, .isub, []) :: (15, .istore 6, []) :: (17, .lload 4, []) :: (19, .lconst 0, [0]) :: (20, .lcmp, []) :: (21, .ifCond .ne 10, [31, 0]) :: (24, .aload_n 1, []) :: (25, .invokevirtual 92, [2, 0, 9]) :: (28, .goto 57, [85, 0]) :: []
def p_X1_loadNumber_0 : List (List (Nat × Nat)) := [] :: [(4, 93)] :: [] :: [] :: [(4, 94)] :: [] :: [(1, 119)] :: [] :: [] :: [] :: [] :: [] :: [] :: [] :: [(4, 105)] :: [] :: []
def bl_X1_loadNumber : List (Nat × List zE) := [(0, b_X1_loadNumber_0), (31, b_X1_loadNumber_31), (51, b_X1_loadNumber_51), (52, b_X1_loadNumber_52), (58, b_X1_loadNumber_58), (81, b_X1_loadNumber_81), (82, b_X1_loadNumber_82), (85, b_X1_loadNumber_85)]
def pl_X1_loadNumber : List (List (List (Nat × Nat))) := [p_X1_loadNumber_0, p_X1_loadNumber_31, p_X1_loadNumber_51, p_X1_loadNumber_52, p_X1_loadNumber_58, p_X1_loadNumber_81, p_X1_loadNumber_82, p_X1_loadNumber_85]
theorem k_X1_loadNumber_0 : zlk 0 bl_X1_loadNumber = b_X1_loadNumber_0 := rfl
theorem k_X1_loadNumber_31 : zlk 31 bl_X1_loadNumber = b_X1_loadNumber_31 := rfl
theorem k_X1_loadNumber_51 : zlk 51 bl_X1_loadNumber = b_X1_loadNumber_51 := rfl
theorem k_X1_loadNumber_52 : zlk 52 bl_X1_loadNumber = b_X1_loadNumber_52 := rfl
theorem k_X1_loadNumber_58 : zlk 58 bl_X1_loadNumber = b_X1_loadNumber_58 := rfl
theorem k_X1_loadNumber_81 : zlk 81 bl_X1_loadNumber = b_X1_loadNumber_81 := rfl
theorem k_X1_loadNumber_82 : zlk 82 bl_X1_loadNumber = b_X1_loadNumber_82 := rfl
theorem k_X1_loadNumber_85 : zlk 85 bl_X1_loadNumber = b_X1_loadNumber_85 := rfl
set_option maxRecDepth 100000 in
theorem ck_X1_loadNumber : zall q_X1_loadNumber.2.2.2.2.1 q_X1_loadNumber.2.1 1 false q_X1_loadNumber.2.2.1 cal_X1_loadNumber q_X1_loadNumber.2.2.2.1 bl_X1_loadNumber pl_X1_loadNumber = true := by decide +kernel
theorem nm_X1_loadNumber : plainName q_X1_loadNumber.1.cls = true ∧ zRX 1 = q_X1_loadNumber.1.cls ∧ (false = true → q_X1_loadNumber.1.name = "<init>") := ⟨by decide +kernel, rfl, fun h => by first | rfl | cases h⟩
set_option maxRecDepth 100000 in
theorem wd_X1_prepare : zwd q_X1_prepare := ⟨zw_in (p := (4, 87)) (by decide +kernel), zw_in (p := (1, 4)) (by decide +kernel), fun h => absurd h (by decide), fun _ => zw_in (p := (4, 86)) (by decide +kernel), fun _ => zw_in (p := (0, 22)) (by decide +kernel)⟩
def cal_X1_prepare : List zCal := [q_X3_at, q_X1_lowerUnit, q_X1_at, q_X1_loadNumber]
def b_X1_prepare_187 : List zE := (187, .return_, []) :: []
def p_X1_prepare_187 : List (List (Nat × Nat)) := [] :: []
def b_X1_prepare_181 : List zE := (181, .iinc 3 1, [1]) :: (184, .goto (-73), [111, 1]) :: []
def p_X1_prepare_181 : List (List (Nat × Nat)) := [] :: [] :: []
def b_X1_prepare_155 : List zE := (155, .aload_n 2, []) :: (156, .ifnull 25, [181, 0]) :: (159, .iload_n 3, []) :: (160, .aload_n 2, []) :: (161, .arraylength, []) :: (162, .if_icmp .ge 19, [181, 0]) :: (165, .aload_n 0, []) :: (166, .aload_n 0, []) :: (167, .iload_n 3, []) :: (168, .aload_n 0, []) :: (169, .getfield 51, [1, 8]) :: (172, .invokevirtual 66, [2, 2, 1]) :: (175, .aload_n 2, []) :: (176, .iload_n 3, []) :: (177, .laload, []) :: (178, .invokevirtual 69, [3, 2, 1]) :: (181, .nop, [0]) :: []
def p_X1_prepare_155 : List (List (Nat × Nat)) := [] :: [] :: [] :: [] :: [] :: [] :: [] :: [] :: [] :: [] :: [(1, 117)] :: [(4, 97)] :: [] :: [] :: [] :: [(4, 101)] :: [] :: []
def b_X1_prepare_122 : List zE := (122, .iload 4, []) :: (124, .aload_n 0, []) :: (125, .getfield 51, [1, 8]) :: (128, .if_icmp .ge 27, [155, 0]) :: (131, .aload_n 0, []) :: (132, .aload_n 0, []) :: (133, .iload_n 3, []) :: (134, .iload 4, []) :: (136, .invokevirtual 66, [2, 2, 1]) :: (139, .aload_n 1, []) :: (140, .iload_n 3, []) :: (141, .iload 4, []) :: (143, .invokevirtual 58, [0, 2, 3]) :: (146, .invokevirtual 69, [3, 2, 1]) :: (149, .iinc 4 1, [1]) :: (152, .goto (-30), [122, 1]) :: []
def p_X1_prepare_122 : List (List (Nat × Nat)) := [] :: [] :: [(1, 117)] :: [] :: [] :: [] :: [] :: [] :: [(4, 97)] :: [] :: [] :: [] :: [(4, 88)] :: [(4, 101)] :: [] :: [] :: []
def b_X1_prepare_111 : List zE := (111, .iload_n 3, []) :: (112, .aload_n 0, []) :: (113, .getfield 47, [1, 7]) :: (116, .if_icmp .ge 71, [187, 0]) :: (119, .iconst 0, [0]) :: (120, .istore 4, []) :: (122, .nop, []) :: []
def p_X1_prepare_111 : List (List (Nat × Nat)) := [] :: [] :: [(1, 116)] :: [] :: [] :: [] :: [] :: []
def b_X1_prepare_109 : List zE := (109, .iconst 0, [0]) :: (110, .istore_n 3, []) :: (111, .nop, []) :: []
def p_X1_prepare_109 : List (List (Nat × Nat)) := [] :: [] :: [] :: []
def b_X1_prepare_100 : List zE := (100, .invokevirtual 62, [1, 1, 1]) :: (103, .iinc 3 1, [1]) :: (106, .goto (-61), [45, 1]) :: []
def p_X1_prepare_100 : List (List (Nat × Nat)) := [(4, 89)] :: [] :: [] :: []
def b_X1_prepare_97 : List zE := (97, .aload_n 2, []) :: (98, .iload_n 3, []) :: (99, .laload, []) :: (100, .nop, [0]) :: []
def p_X1_prepare_97 : List (List (Nat × Nat)) := [] :: [] :: [] :: [] :: []
def b_X1_prepare_93 : List zE := (93, .lconst 0, [0]) :: (94, .goto 6, [100, 0]) :: []
def p_X1_prepare_93 : List (List (Nat × Nat)) := [] :: [] :: []
def b_X1_prepare_82 : List zE := (82, .aload_n 0, []) :: (83, .aload_n 2, []) :: (84, .ifnull 9, [93, 0]) :: (87, .iload_n 3, []) :: (88, .aload_n 2, []) :: (89, .arraylength, []) :: (90, .if_icmp .lt 7, [97, 0]) :: (93, .nop, [0]) :: []
def p_X1_prepare_82 : List (List (Nat × Nat)) := [] :: [] :: [] :: [] :: [] :: [] :: [] :: [] :: []
def b_X1_prepare_56 : List zE := (56, .iload 4, []) :: (58, .aload_n 0, []) :: (59, .getfield 51, [1, 8]) :: (62, .if_icmp .ge 20, [82, 0]) :: (65, .aload_n 0, []) :: (66, .aload_n 1, []) :: (67, .iload_n 3, []) :: (68, .iload 4, []) :: (70, .invokevirtual 58, [0, 2, 3]) :: (73, .invokevirtual 62, [1, 1, 1]) :: (76, .iinc 4 1, [1]) :: (79, .goto (-23), [56, 1]) :: []
def p_X1_prepare_56 : List (List (Nat × Nat)) := [] :: [] :: [(1, 117)] :: [] :: [] :: [] :: [] :: [] :: [(4, 88)] :: [(4, 89)] :: [] :: [] :: []
def b_X1_prepare_45 : List zE := (45, .iload_n 3, []) :: (46, .aload_n 0, []) :: (47, .getfield 47, [1, 7]) :: (50, .if_icmp .ge 59, [109, 0]) :: (53, .iconst 0, [0]) :: (54, .istore 4, []) :: (56, .nop, []) :: []
def p_X1_prepare_45 : List (List (Nat × Nat)) := [] :: [] :: [(1, 116)] :: [] :: [] :: [] :: [] :: []
def b_X1_prepare_34 : List zE := (34, .putfield 52, [1, 9]) :: (37, .aload_n 0, []) :: (38, .bipush 64, [64]) :: (40, .putfield 55, [1, 10]) :: (43, .iconst 0, [0]) :: (44, .istore_n 3, []) :: (45, .nop, []) :: []
def p_X1_prepare_34 : List (List (Nat × Nat)) := [(1, 118)] :: [] :: [] :: [(1, 119)] :: [] :: [] :: [] :: []
def b_X1_prepare_28 : List zE := (28, .aload_n 0, []) :: (29, .getfield 51, [1, 8]) :: (32, .iconst 1, [1]) :: (33, .iadd, []) :: (34, .nop, [0]) :: []
def p_X1_prepare_28 : List (List (Nat × Nat)) := [] :: [(1, 117)] :: [] :: [] :: [] :: []
def b_X1_prepare_0 : List zE := (0, .aload_n 0, []) :: (1, .aload_n 1, []) :: (2, .getfield 41, [3, 2]) :: (5, .putfield 47, [1, 7]) :: (8, .aload_n 0, []) :: (9, .aload_n 1, []) :: (10, .getfield 48, [3, 3]) :: (13, .putfield 51, [1, 8]) :: (16, .aload_n 0, []) :: (17, .aload_n 2, []) :: (18, .ifnonnull 10, [28, 0]) :: (21, .aload_n 0, []) :: (22, .getfield 51, [1, 8]) :: (25, .goto 9, [34, 0]) :: []
def p_X1_prepare_0 : List (List (Nat × Nat)) := [] :: [] :: [(1, 214)] :: [(1, 116)] :: [] :: [] :: [(1, 222)] :: [(1, 117)] :: [] :: [] :: [] :: [] :: [(1, 117)] :: [] :: []
def bl_X1_prepare : List (Nat × List zE) := [(0, b_X1_prepare_0), (28, b_X1_prepare_28), (34, b_X1_prepare_34), (45, b_X1_prepare_45), (56, b_X1_prepare_56), (82, b_X1_prepare_82), (93, b_X1_prepare_93), (97, b_X1_prepare_97), (100, b_X1_prepare_100), (109, b_X1_prepare_109), (111, b_X1_prepare_111), (122, b_X1_prepare_122), (155, b_X1_prepare_155), (181, b_X1_prepare_181), (187, b_X1_prepare_187)]
def pl_X1_prepare : List (List (List (Nat × Nat))) := [p_X1_prepare_0, p_X1_prepare_28, p_X1_prepare_34, p_X1_prepare_45, p_X1_prepare_56, p_X1_prepare_82, p_X1_prepare_93, p_X1_prepare_97, p_X1_prepare_100, p_X1_prepare_109, p_X1_prepare_111, p_X1_prepare_122, p_X1_prepare_155, p_X1_prepare_181, p_X1_prepare_187]
theorem k_X1_prepare_0 : zlk 0 bl_X1_prepare = b_X1_prepare_0 := rfl
theorem k_X1_prepare_28 : zlk 28 bl_X1_prepare = b_X1_prepare_28 := rfl
theorem k_X1_prepare_34 : zlk 34 bl_X1_prepare = b_X1_prepare_34 := rfl
theorem k_X1_prepare_45 : zlk 45 bl_X1_prepare = b_X1_prepare_45 := rfl
theorem k_X1_prepare_56 : zlk 56 bl_X1_prepare = b_X1_prepare_56 := rfl
theorem k_X1_prepare_82 : zlk 82 bl_X1_prepare = b_X1_prepare_82 := rfl
theorem k_X1_prepare_93 : zlk 93 bl_X1_prepare = b_X1_prepare_93 := rfl
theorem k_X1_prepare_97 : zlk 97 bl_X1_prepare = b_X1_prepare_97 := rfl
theorem k_X1_prepare_100 : zlk 100 bl_X1_prepare = b_X1_prepare_100 := rfl
theorem k_X1_prepare_109 : zlk 109 bl_X1_prepare = b_X1_prepare_109 := rfl
theorem k_X1_prepare_111 : zlk 111 bl_X1_prepare = b_X1_prepare_111 := rfl
theorem k_X1_prepare_122 : zlk 122 bl_X1_prepare = b_X1_prepare_122 := rfl
theorem k_X1_prepare_155 : zlk 155 bl_X1_prepare = b_X1_prepare_155 := rfl
theorem k_X1_prepare_181 : zlk 181 bl_X1_prepare = b_X1_prepare_181 := rfl
theorem k_X1_prepare_187 : zlk 187 bl_X1_prepare = b_X1_prepare_187 := rfl
set_option maxRecDepth 100000 in
theorem ck_X1_prepare : zall q_X1_prepare.2.2.2.2.1 q_X1_prepare.2.1 1 false q_X1_prepare.2.2.1 cal_X1_prepare q_X1_prepare.2.2.2.1 bl_X1_prepare pl_X1_prepare = true := by decide +kernel
theorem nm_X1_prepare : plainName q_X1_prepare.1.cls = true ∧ zRX 1 = q_X1_prepare.1.cls ∧ (false = true → q_X1_prepare.1.name = "<init>") := ⟨by decide +kernel, rfl, fun h => by first | rfl | cases h⟩
set_option maxRecDepth 100000 in
theorem wd_X1_appendUnits : zwd q_X1_appendUnits := ⟨zw_in (p := (5, 31)) (by decide +kernel), zw_in (p := (1, 4)) (by decide +kernel), fun h => absurd h (by decide), fun _ => zw_in (p := (5, 30)) (by decide +kernel), fun _ => zw_in (p := (0, 37)) (by decide +kernel)⟩
def cal_X1_appendUnits : List zCal := [q_X1_at, q_X9_become]
def b_X1_appendUnits_58 : List zE := (58, .aload_n 0, []) :: (59, .aload_n 0, []) :: (60, .getfield 51, [1, 8]) :: (63, .aload_n 0, []) :: (64, .getfield 47, [1, 7]) :: (67, .iadd, []) :: (68, .putfield 52, [1, 9]) :: (71, .return_, []) :: []
def p_X1_appendUnits_58 : List (List (Nat × Nat)) := [] :: [] :: [(1, 117)] :: [] :: [(1, 116)] :: [] :: [(1, 118)] :: [] :: []
def b_X1_appendUnits_52 : List zE := (52, .iinc 1 1, [1]) :: (55, .goto (-53), [2, 1]) :: []
def p_X1_appendUnits_52 : List (List (Nat × Nat)) := [] :: [] :: []
def b_X1_appendUnits_41 : List zE := (41, .iconst 0, [0]) :: (42, .iconst 1, [1]) :: (43, .invokevirtual 95, [1, 3, 9]) :: (46, .iinc 2 1, [1]) :: (49, .goto (-37), [12, 1]) :: []
def p_X1_appendUnits_41 : List (List (Nat × Nat)) := [] :: [] :: [(4, 109)] :: [] :: [] :: []
def b_X1_appendUnits_40 : List zE := (40, .lconst 0, [0]) :: (41, .nop, [0]) :: []
def p_X1_appendUnits_40 : List (List (Nat × Nat)) := [] :: [] :: []
def b_X1_appendUnits_12 : List zE := (12, .iload_n 2, []) :: (13, .aload_n 0, []) :: (14, .getfield 47, [1, 7]) :: (17, .if_icmp .ge 35, [52, 0]) :: (20, .aload_n 0, []) :: (21, .iload_n 1, []) :: (22, .aload_n 0, []) :: (23, .getfield 51, [1, 8]) :: (26, .iload_n 2, []) :: (27, .iadd, []) :: (28, .invokevirtual 66, [0, 2, 1]) :: (31, .iload_n 1, []) :: (32, .iload_n 2, []) :: (33, .if_icmp .ne 7, [40, 0]) :: (36, .lconst 1, [1]) :: (37, .goto 4, [41, 0]) :: []
def p_X1_appendUnits_12 : List (List (Nat × Nat)) := [] :: [] :: [(1, 116)] :: [] :: [] :: [] :: [] :: [(1, 117)] :: [] :: [] :: [(4, 97)] :: [] :: [] :: [] :: [] :: [] :: []
def b_X1_appendUnits_2 : List zE := (2, .iload_n 1, []) :: (3, .aload_n 0, []) :: (4, .getfield 47, [1, 7]) :: (7, .if_icmp .ge 51, [58, 0]) :: (10, .iconst 0, [0]) :: (11, .istore_n 2, []) :: (12, .nop, []) :: []
def p_X1_appendUnits_2 : List (List (Nat × Nat)) := [] :: [] :: [(1, 116)] :: [] :: [] :: [] :: [] :: []
def b_X1_appendUnits_0 : List zE := (0, .iconst 0, [0]) :: (1, .istore_n 1, []) :: (2, .nop, []) :: []
def p_X1_appendUnits_0 : List (List (Nat × Nat)) := [] :: [] :: [] :: []
def bl_X1_appendUnits : List (Nat × List zE) := [(0, b_X1_appendUnits_0), (2, b_X1_appendUnits_2), (12, b_X1_appendUnits_12), (40, b_X1_appendUnits_40), (41, b_X1_appendUnits_41), (52, b_X1_appendUnits_52), (58, b_X1_appendUnits_58)]
def pl_X1_appendUnits : List (List (List (Nat × Nat))) := [p_X1_appendUnits_0, p_X1_appendUnits_2, p_X1_appendUnits_12, p_X1_appendUnits_40, p_X1_appendUnits_41, p_X1_appendUnits_52, p_X1_appendUnits_58]
theorem k_X1_appendUnits_0 : zlk 0 bl_X1_appendUnits = b_X1_appendUnits_0 := rfl
theorem k_X1_appendUnits_2 : zlk 2 bl_X1_appendUnits = b_X1_appendUnits_2 := rfl
theorem k_X1_appendUnits_12 : zlk 12 bl_X1_appendUnits = b_X1_appendUnits_12 := rfl
theorem k_X1_appendUnits_40 : zlk 40 bl_X1_appendUnits = b_X1_appendUnits_40 := rfl
theorem k_X1_appendUnits_41 : zlk 41 bl_X1_appendUnits = b_X1_appendUnits_41 := rfl
theorem k_X1_appendUnits_52 : zlk 52 bl_X1_appendUnits = b_X1_appendUnits_52 := rfl
theorem k_X1_appendUnits_58 : zlk 58 bl_X1_appendUnits = b_X1_appendUnits_58 := rfl
set_option maxRecDepth 100000 in
theorem ck_X1_appendUnits : zall q_X1_appendUnits.2.2.2.2.1 q_X1_appendUnits.2.1 1 false q_X1_appendUnits.2.2.1 cal_X1_appendUnits q_X1_appendUnits.2.2.2.1 bl_X1_appendUnits pl_X1_appendUnits = true := by decide +kernel
theorem nm_X1_appendUnits : plainName q_X1_appendUnits.1.cls = true ∧ zRX 1 = q_X1_appendUnits.1.cls ∧ (false = true → q_X1_appendUnits.1.name = "<init>") := ⟨by decide +kernel, rfl, fun h => by first | rfl | cases h⟩
set_option maxRecDepth 100000 in
theorem wd_X9_trailingZeros : zwd q_X9_trailingZeros := ⟨zw_in (p := (4, 134)) (by decide +kernel), zw_in (p := (1, 5)) (by decide +kernel), fun h => absurd h (by decide), fun _ => zw_in (p := (4, 132)) (by decide +kernel), fun _ => zw_in (p := (4, 133)) (by decide +kernel)⟩
def cal_X9_trailingZeros : List zCal := [q_X0_lowestBit]
def b_X9_trailingZeros_45 : List zE := (45, .iconst 0, [0]) :: (46, .ireturn, []) :: []
def p_X9_trailingZeros_45 : List (List (Nat × Nat)) := [] :: [] :: []
def b_X9_trailingZeros_39 : List zE := (39, .iinc 1 1, [1]) :: (42, .goto (-40), [2, 1]) :: []
def p_X9_trailingZeros_39 : List (List (Nat × Nat)) := [] :: [] :: []
def b_X9_trailingZeros_2 : List zE := (2, .iload_n 1, []) :: (3, .aload_n 0, []) :: (4, .getfield 13, [9, 1]) :: (7, .if_icmp .ge 38, [45, 0]) :: (10, .aload_n 0, []) :: (11, .getfield 9, [9, 0]) :: (14, .iload_n 1, []) :: (15, .iaload, []) :: (16, .ifCond .eq 23, [39, 0]) :: (19, .bipush 32, [32]) :: (21, .iload_n 1, []) :: (22, .imul, []) :: (23, .aload_n 0, []) :: (24, .getfield 9, [9, 0]) :: (27, .iload_n 1, []) :: (28, .iaload, []) :: (29, .i2l, []) :: (30, .ldc2_w 32, [4294967295]) :: (33, .land, []) :: (34, .invokestatic 38, [0, 1]) :: (37, .iadd, []) :: (38, .ireturn, []) :: []
def p_X9_trailingZeros_2 : List (List (Nat × Nat)) := [] :: [] :: [(1, 97)] :: [] :: [] :: [(1, 96)] :: [] :: [] :: [] :: [] :: [] :: [] :: [] :: [(1, 96)] :: [] :: [] :: [] :: [(4, 122)] :: [] :: [(4, 135)] :: [] :: [] :: []
def b_X9_trailingZeros_0 : List zE := (0, .iconst 0, [0]) :: (1, .istore_n 1, []) :: (2, .nop, []) :: []
def p_X9_trailingZeros_0 : List (List (Nat × Nat)) := [] :: [] :: [] :: []
def bl_X9_trailingZeros : List (Nat × List zE) := [(0, b_X9_trailingZeros_0), (2, b_X9_trailingZeros_2), (39, b_X9_trailingZeros_39), (45, b_X9_trailingZeros_45)]
def pl_X9_trailingZeros : List (List (List (Nat × Nat))) := [p_X9_trailingZeros_0, p_X9_trailingZeros_2, p_X9_trailingZeros_39, p_X9_trailingZeros_45]
theorem k_X9_trailingZeros_0 : zlk 0 bl_X9_trailingZeros = b_X9_trailingZeros_0 := rfl
theorem k_X9_trailingZeros_2 : zlk 2 bl_X9_trailingZeros = b_X9_trailingZeros_2 := rfl
theorem k_X9_trailingZeros_39 : zlk 39 bl_X9_trailingZeros = b_X9_trailingZeros_39 := rfl
theorem k_X9_trailingZeros_45 : zlk 45 bl_X9_trailingZeros = b_X9_trailingZeros_45 := rfl
set_option maxRecDepth 100000 in
theorem ck_X9_trailingZeros : zall q_X9_trailingZeros.2.2.2.2.1 q_X9_trailingZeros.2.1 9 false q_X9_trailingZeros.2.2.1 cal_X9_trailingZeros q_X9_trailingZeros.2.2.2.1 bl_X9_trailingZeros pl_X9_trailingZeros = true := by decide +kernel
theorem nm_X9_trailingZeros : plainName q_X9_trailingZeros.1.cls = true ∧ zRX 9 = q_X9_trailingZeros.1.cls ∧ (false = true → q_X9_trailingZeros.1.name = "<init>") := ⟨by decide +kernel, rfl, fun h => by first | rfl | cases h⟩
set_option maxRecDepth 100000 in
theorem wd_X9_shiftDown : zwd q_X9_shiftDown := ⟨zw_in (p := (4, 139)) (by decide +kernel), zw_in (p := (1, 5)) (by decide +kernel), fun h => absurd h (by decide), fun _ => zw_in (p := (4, 137)) (by decide +kernel), fun _ => zw_in (p := (4, 138)) (by decide +kernel)⟩
def cal_X9_shiftDown : List zCal := [q_X9_trim]
def b_X9_shiftDown_93 : List zE := (93, .aload_n 0, []) :: (94, .aload_n 0, []) :: (95, .getfield 13, [9, 1]) :: (98, .iload_n 2, []) :: (99, .isub, []) :: (100, .iconst 0, [0]) :: (101, .invokestatic 41, [102]) :: (104, .putfield 13, [9, 1]) :: (107, .aload_n 0, []) :: (108, .invokevirtual 23, [0, 0, 9]) :: (111, .return_, []) :: []
def p_X9_shiftDown_93 : List (List (Nat × Nat)) := [] :: [] :: [(1, 97)] :: [] :: [] :: [] :: [(4, 140), (2, 197), (1, 14), (2, 198)] :: [(1, 97)] :: [] :: [(4, 114)] :: [] :: []
def b_X9_shiftDown_55 : List zE := (55, .lstore 5, []) :: (57, .aload_n 0, []) :: (58, .getfield 9, [9, 0]) :: (61, .iload 4, []) :: (63, .iload_n 2, []) :: (64, .isub, []) :: (65, .lload 5, []) :: (67, .bipush 32, [32]) :: (69, .lshl, []) :: (70, .aload_n 0, []) :: (71, .getfield 9, [9, 0]) :: (74, .iload 4, []) :: (76, .iaload, []) :: (77, .i2l, []) :: (78, .ldc2_w 32, [4294967295]) :: (81, .land, []) :: (82, .lor, []) :: (83, .iload_n 3, []) :: (84, .lushr, []) :: (85, .l2i, []) :: (86, .iastore, []) :: (87, .iinc 4 1, [1]) :: (90, .goto (-73), [17, 1]) :: []
def p_X9_shiftDown_55 : List (List (Nat × Nat)) := [] :: [] :: [(1, 96)] :: [] :: [] :: [] :: [] :: [] :: [] :: [] :: [(1, 96)] :: [] :: [] :: [] :: [(4, 122)] :: [] :: [] :: [] :: [] :: [] :: [] :: [] :: [] :: []
def b_X9_shiftDown_54 : List zE := (54, .lconst 0, [0]) :: (55, .nop, [0]) :: []
def p_X9_shiftDown_54 : List (List (Nat × Nat)) := [] :: [] :: []
def b_X9_shiftDown_17 : List zE := (17, .iload 4, []) :: (19, .aload_n 0, []) :: (20, .getfield 13, [9, 1]) :: (23, .if_icmp .ge 70, [93, 0]) :: (26, .iload 4, []) :: (28, .iconst 1, [1]) :: (29, .iadd, []) :: (30, .aload_n 0, []) :: (31, .getfield 13, [9, 1]) :: (34, .if_icmp .ge 20, [54, 0]) :: (37, .aload_n 0, []) :: (38, .getfield 9, [9, 0]) :: (41, .iload 4, []) :: (43, .iconst 1, [1]) :: (44, .iadd, []) :: (45, .iaload, []) :: (46, .i2l, []) :: (47, .ldc2_w 32, [4294967295]) :: (50, .land, []) :: (51, .goto 4, [55, 0]) :: []
def p_X9_shiftDown_17 : List (List (Nat × Nat)) := [] :: [] :: [(1, 97)] :: [] :: [] :: [] :: [] :: [] :: [(1, 97)] :: [] :: [] :: [(1, 96)] :: [] :: [] :: [] :: [] :: [] :: [(4, 122)] :: [] :: [] :: []
def b_X9_shiftDown_14 : List zE := (14, .iload_n 2, []) :: (15, .istore 4, []) :: (17, .nop, []) :: []
def p_X9_shiftDown_14 : List (List (Nat × Nat)) := [] :: [] :: [] :: []
def b_X9_shiftDown_0 : List zE := (0, .iload_n 1, []) :: (1, .iconst 5, [5]) :: (2, .ishr, []) :: (3, .istore_n 2, []) :: (4, .iload_n 1, []) :: (5, .bipush 31, [31]) :: (7, .iand, []) :: (8, .istore_n 3, []) :: (9, .iload_n 1, []) :: (10, .ifCond .gt 4, [14, 0]) :: (13, .return_, []) :: []
def p_X9_shiftDown_0 : List (List (Nat × Nat)) := [] :: [] :: [] :: [] :: [] :: [] :: [] :: [] :: [] :: [] :: [] :: []
def bl_X9_shiftDown : List (Nat × List zE) := [(0, b_X9_shiftDown_0), (14, b_X9_shiftDown_14), (17, b_X9_shiftDown_17), (54, b_X9_shiftDown_54), (55, b_X9_shiftDown_55), (93, b_X9_shiftDown_93)]
def pl_X9_shiftDown : List (List (List (Nat × Nat))) := [p_X9_shiftDown_0, p_X9_shiftDown_14, p_X9_shiftDown_17, p_X9_shiftDown_54, p_X9_shiftDown_55, p_X9_shiftDown_93]
theorem k_X9_shiftDown_0 : zlk 0 bl_X9_shiftDown = b_X9_shiftDown_0 := rfl
theorem k_X9_shiftDown_14 : zlk 14 bl_X9_shiftDown = b_X9_shiftDown_14 := rfl
theorem k_X9_shiftDown_17 : zlk 17 bl_X9_shiftDown = b_X9_shiftDown_17 := rfl
theorem k_X9_shiftDown_54 : zlk 54 bl_X9_shiftDown = b_X9_shiftDown_54 := rfl
theorem k_X9_shiftDown_55 : zlk 55 bl_X9_shiftDown = b_X9_shiftDown_55 := rfl
theorem k_X9_shiftDown_93 : zlk 93 bl_X9_shiftDown = b_X9_shiftDown_93 := rfl
set_option maxRecDepth 100000 in
theorem ck_X9_shiftDown : zall q_X9_shiftDown.2.2.2.2.1 q_X9_shiftDown.2.1 9 false q_X9_shiftDown.2.2.1 cal_X9_shiftDown q_X9_shiftDown.2.2.2.1 bl_X9_shiftDown pl_X9_shiftDown = true := by decide +kernel
theorem nm_X9_shiftDown : plainName q_X9_shiftDown.1.cls = true ∧ zRX 9 = q_X9_shiftDown.1.cls ∧ (false = true → q_X9_shiftDown.1.name = "<init>") := ⟨by decide +kernel, rfl, fun h => by first | rfl | cases h⟩
set_option maxRecDepth 100000 in
theorem wd_X9_inverseOfLowest : zwd q_X9_inverseOfLowest := ⟨zw_in (p := (4, 144)) (by decide +kernel), zw_in (p := (1, 5)) (by decide +kernel), fun h => absurd h (by decide), fun _ => zw_in (p := (4, 142)) (by decide +kernel), fun _ => zw_in (p := (4, 143)) (by decide +kernel)⟩
def cal_X9_inverseOfLowest : List zCal := []
def b_X9_inverseOfLowest_41 : List zE := (41, .iload_n 2, []) :: (42, .ireturn, []) :: []
def p_X9_inverseOfLowest_41 : List (List (Nat × Nat)) := [] :: [] :: []
def b_X9_inverseOfLowest_22 : List zE := (22, .iload_n 3, []) :: (23, .iconst 5, [5]) :: (24, .if_icmp .ge 17, [41, 0]) :: (27, .iload_n 2, []) :: (28, .iconst 2, [2]) :: (29, .iload_n 1, []) :: (30, .iload_n 2, []) :: (31, .imul, []) :: (32, .isub, []) :: (33, .imul, []) :: (34, .istore_n 2, []) :: (35, .iinc 3 1, [1]) :: (38, .goto (-16), [22, 1]) :: []
def p_X9_inverseOfLowest_22 : List (List (Nat × Nat)) := [] :: [] :: [] :: [] :: [] :: [] :: [] :: [] :: [] :: [] :: [] :: [] :: [] :: []
def b_X9_inverseOfLowest_17 : List zE := (17, .istore_n 1, []) :: (18, .iload_n 1, []) :: (19, .istore_n 2, []) :: (20, .iconst 0, [0]) :: (21, .istore_n 3, []) :: (22, .nop, []) :: []
def p_X9_inverseOfLowest_17 : List (List (Nat × Nat)) := [] :: [] :: [] :: [] :: [] :: [] :: []
def b_X9_inverseOfLowest_11 : List zE := (11, .aload_n 0, []) :: (12, .getfield 9, [9, 0]) :: (15, .iconst 0, [0]) :: (16, .iaload, []) :: (17, .nop, [0]) :: []
def p_X9_inverseOfLowest_11 : List (List (Nat × Nat)) := [] :: [(1, 96)] :: [] :: [] :: [] :: []
def b_X9_inverseOfLowest_0 : List zE := (0, .aload_n 0, []) :: (1, .getfield 13, [9, 1]) :: (4, .ifCond .ne 7, [11, 0]) :: (7, .iconst 1, [1]) :: (8, .goto 9, [17, 0]) :: []
def p_X9_inverseOfLowest_0 : List (List (Nat × Nat)) := [] :: [(1, 97)] :: [] :: [] :: [] :: []
def bl_X9_inverseOfLowest : List (Nat × List zE) := [(0, b_X9_inverseOfLowest_0), (11, b_X9_inverseOfLowest_11), (17, b_X9_inverseOfLowest_17), (22, b_X9_inverseOfLowest_22), (41, b_X9_inverseOfLowest_41)]
def pl_X9_inverseOfLowest : List (List (List (Nat × Nat))) := [p_X9_inverseOfLowest_0, p_X9_inverseOfLowest_11, p_X9_inverseOfLowest_17, p_X9_inverseOfLowest_22, p_X9_inverseOfLowest_41]
theorem k_X9_inverseOfLowest_0 : zlk 0 bl_X9_inverseOfLowest = b_X9_inverseOfLowest_0 := rfl
theorem k_X9_inverseOfLowest_11 : zlk 11 bl_X9_inverseOfLowest = b_X9_inverseOfLowest_11 := rfl
theorem k_X9_inverseOfLowest_17 : zlk 17 bl_X9_inverseOfLowest = b_X9_inverseOfLowest_17 := rfl
theorem k_X9_inverseOfLowest_22 : zlk 22 bl_X9_inverseOfLowest = b_X9_inverseOfLowest_22 := rfl
theorem k_X9_inverseOfLowest_41 : zlk 41 bl_X9_inverseOfLowest = b_X9_inverseOfLowest_41 := rfl
set_option maxRecDepth 100000 in
theorem ck_X9_inverseOfLowest : zall q_X9_inverseOfLowest.2.2.2.2.1 q_X9_inverseOfLowest.2.1 9 false q_X9_inverseOfLowest.2.2.1 cal_X9_inverseOfLowest q_X9_inverseOfLowest.2.2.2.1 bl_X9_inverseOfLowest pl_X9_inverseOfLowest = true := by decide +kernel
theorem nm_X9_inverseOfLowest : plainName q_X9_inverseOfLowest.1.cls = true ∧ zRX 9 = q_X9_inverseOfLowest.1.cls ∧ (false = true → q_X9_inverseOfLowest.1.name = "<init>") := ⟨by decide +kernel, rfl, fun h => by first | rfl | cases h⟩
set_option maxRecDepth 100000 in
theorem wd_X1_prepareDivisor : zwd q_X1_prepareDivisor := ⟨zw_in (p := (4, 130)) (by decide +kernel), zw_in (p := (1, 4)) (by decide +kernel), fun h => absurd h (by decide), fun _ => zw_in (p := (4, 129)) (by decide +kernel), fun _ => zw_in (p := (0, 28)) (by decide +kernel)⟩
def cal_X1_prepareDivisor : List zCal := [q_X9_trailingZeros, q_X9_shiftDown, q_X9_inverseOfLowest]
def b_X1_prepareDivisor_0 : List zE := (0, .aload_n 0, []) :: (1, .aload_n 0, []) :: (2, .getfield 30, [1, 4]) :: (5, .invokevirtual 127, [0, 0, 9]) :: (8, .putfield 131, [1, 13]) :: (11, .aload_n 0, []) :: (12, .getfield 30, [1, 4]) :: (15, .aload_n 0, []) :: (16, .getfield 131, [1, 13]) :: (19, .invokevirtual 134, [1, 1, 9]) :: (22, .aload_n 0, []) :: (23, .aload_n 0, []) :: (24, .getfield 30, [1, 4]) :: (27, .invokevirtual 138, [2, 0, 9]) :: (30, .putfield 141, [1, 14]) :: (33, .return_, []) :: []
def p_X1_prepareDivisor_0 : List (List (Nat × Nat)) := [] :: [] :: [(1, 113)] :: [(4, 131)] :: [(1, 122)] :: [] :: [(1, 113)] :: [] :: [(1, 122)] :: [(4, 136)] :: [] :: [] :: [(1, 113)] :: [(4, 141)] :: [(1, 123)] :: [] :: []
def bl_X1_prepareDivisor : List (Nat × List zE) := [(0, b_X1_prepareDivisor_0)]
def pl_X1_prepareDivisor : List (List (List (Nat × Nat))) := [p_X1_prepareDivisor_0]
theorem k_X1_prepareDivisor_0 : zlk 0 bl_X1_prepareDivisor = b_X1_prepareDivisor_0 := rfl
set_option maxRecDepth 100000 in
theorem ck_X1_prepareDivisor : zall q_X1_prepareDivisor.2.2.2.2.1 q_X1_prepareDivisor.2.1 1 false q_X1_prepareDivisor.2.2.1 cal_X1_prepareDivisor q_X1_prepareDivisor.2.2.2.1 bl_X1_prepareDivisor pl_X1_prepareDivisor = true := by decide +kernel
theorem nm_X1_prepareDivisor : plainName q_X1_prepareDivisor.1.cls = true ∧ zRX 1 = q_X1_prepareDivisor.1.cls ∧ (false = true → q_X1_prepareDivisor.1.name = "<init>") := ⟨by decide +kernel, rfl, fun h => by first | rfl | cases h⟩
set_option maxRecDepth 100000 in
theorem wd_X1_rowWithPivot : zwd q_X1_rowWithPivot := ⟨zw_in (p := (4, 148)) (by decide +kernel), zw_in (p := (1, 4)) (by decide +kernel), fun h => absurd h (by decide), fun _ => zw_in (p := (4, 147)) (by decide +kernel), fun _ => zw_in (p := (0, 29)) (by decide +kernel)⟩
def cal_X1_rowWithPivot : List zCal := [q_X1_at]
def b_X1_rowWithPivot_33 : List zE := (33, .iconst (-1), [4294967295]) :: (34, .ireturn, []) :: []
def p_X1_rowWithPivot_33 : List (List (Nat × Nat)) := [] :: [] :: []
def b_X1_rowWithPivot_27 : List zE := (27, .iinc 2 1, [1]) :: (30, .goto (-25), [5, 1]) :: []
def p_X1_rowWithPivot_27 : List (List (Nat × Nat)) := [] :: [] :: []
def b_X1_rowWithPivot_5 : List zE := (5, .iload_n 2, []) :: (6, .aload_n 0, []) :: (7, .getfield 47, [1, 7]) :: (10, .if_icmp .ge 23, [33, 0]) :: (13, .aload_n 0, []) :: (14, .iload_n 2, []) :: (15, .iload_n 1, []) :: (16, .invokevirtual 66, [0, 2, 1]) :: (19, .getfield 124, [9, 2]) :: (22, .ifCond .eq 5, [27, 0]) :: (25, .iload_n 2, []) :: (26, .ireturn, []) :: []
def p_X1_rowWithPivot_5 : List (List (Nat × Nat)) := [] :: [] :: [(1, 116)] :: [] :: [] :: [] :: [] :: [(4, 97)] :: [(1, 100)] :: [] :: [] :: [] :: []
def b_X1_rowWithPivot_0 : List zE := (0, .aload_n 0, []) :: (1, .getfield 99, [1, 11]) :: (4, .istore_n 2, []) :: (5, .nop, []) :: []
def p_X1_rowWithPivot_0 : List (List (Nat × Nat)) := [] :: [(1, 120)] :: [] :: [] :: []
def bl_X1_rowWithPivot : List (Nat × List zE) := [(0, b_X1_rowWithPivot_0), (5, b_X1_rowWithPivot_5), (27, b_X1_rowWithPivot_27), (33, b_X1_rowWithPivot_33)]
def pl_X1_rowWithPivot : List (List (List (Nat × Nat))) := [p_X1_rowWithPivot_0, p_X1_rowWithPivot_5, p_X1_rowWithPivot_27, p_X1_rowWithPivot_33]
theorem k_X1_rowWithPivot_0 : zlk 0 bl_X1_rowWithPivot = b_X1_rowWithPivot_0 := rfl
theorem k_X1_rowWithPivot_5 : zlk 5 bl_X1_rowWithPivot = b_X1_rowWithPivot_5 := rfl
theorem k_X1_rowWithPivot_27 : zlk 27 bl_X1_rowWithPivot = b_X1_rowWithPivot_27 := rfl
theorem k_X1_rowWithPivot_33 : zlk 33 bl_X1_rowWithPivot = b_X1_rowWithPivot_33 := rfl
set_option maxRecDepth 100000 in
theorem ck_X1_rowWithPivot : zall q_X1_rowWithPivot.2.2.2.2.1 q_X1_rowWithPivot.2.1 1 false q_X1_rowWithPivot.2.2.1 cal_X1_rowWithPivot q_X1_rowWithPivot.2.2.2.1 bl_X1_rowWithPivot pl_X1_rowWithPivot = true := by decide +kernel
theorem nm_X1_rowWithPivot : plainName q_X1_rowWithPivot.1.cls = true ∧ zRX 1 = q_X1_rowWithPivot.1.cls ∧ (false = true → q_X1_rowWithPivot.1.name = "<init>") := ⟨by decide +kernel, rfl, fun h => by first | rfl | cases h⟩
set_option maxRecDepth 100000 in
theorem wd_X1_exchangeRows : zwd q_X1_exchangeRows := ⟨zw_in (p := (4, 152)) (by decide +kernel), zw_in (p := (1, 4)) (by decide +kernel), fun h => absurd h (by decide), fun _ => zw_in (p := (4, 151)) (by decide +kernel), fun _ => zw_in (p := (0, 30)) (by decide +kernel)⟩
def cal_X1_exchangeRows : List zCal := [q_X1_at]
def b_X1_exchangeRows_97 : List zE := (97, .putfield 102, [1, 12]) :: (100, .return_, []) :: []
def p_X1_exchangeRows_97 : List (List (Nat × Nat)) := [(1, 121)] :: [] :: []
def b_X1_exchangeRows_96 : List zE := (96, .iconst 0, [0]) :: (97, .nop, [0]) :: []
def p_X1_exchangeRows_96 : List (List (Nat × Nat)) := [] :: [] :: []
def b_X1_exchangeRows_84 : List zE := (84, .aload_n 0, []) :: (85, .aload_n 0, []) :: (86, .getfield 102, [1, 12]) :: (89, .ifCond .ne 7, [96, 0]) :: (92, .iconst 1, [1]) :: (93, .goto 4, [97, 0]) :: []
def p_X1_exchangeRows_84 : List (List (Nat × Nat)) := [] :: [] :: [(1, 121)] :: [] :: [] :: [] :: []
def b_X1_exchangeRows_32 : List zE := (32, .iload_n 3, []) :: (33, .aload_n 0, []) :: (34, .getfield 52, [1, 9]) :: (37, .if_icmp .ge 47, [84, 0]) :: (40, .aload_n 0, []) :: (41, .iload_n 1, []) :: (42, .iload_n 3, []) :: (43, .invokevirtual 66, [0, 2, 1]) :: (46, .astore 4, []) :: (48, .aload_n 0, []) :: (49, .getfield 13, [1, 0]) :: (52, .iload_n 1, []) :: (53, .bipush 16, [16]) :: (55, .imul, []) :: (56, .iload_n 3, []) :: (57, .iadd, []) :: (58, .aload_n 0, []) :: (59, .iload_n 2, []) :: (60, .iload_n 3, []) :: (61, .invokevirtual 66, [0, 2, 1]) :: (64, .aastore, []) :: (65, .aload_n 0, []) :: (66, .getfield 13, [1, 0]) :: (69, .iload_n 2, []) :: (70, .bipush 16, [16]) :: (72, .imul, []) :: (73, .iload_n 3, []) :: (74, .iadd, []) :: (75, .aload 4, []) :: (77, .aastore, []) :: (78, .iinc 3 1, [1]) :: (81, .goto (-49), [32, 1]) :: []
def p_X1_exchangeRows_32 : List (List (Nat × Nat)) := [] :: [] :: [(1, 118)] :: [] :: [] :: [] :: [] :: [(4, 97)] :: [] :: [] :: [(1, 109)] :: [] :: [] :: [] :: [] :: [] :: [] :: [] :: [] :: [(4, 97)] :: [] :: [] :: [(1, 109)] :: [] :: [] :: [] :: [] :: [] :: [] :: [] :: [] :: [] :: []
def b_X1_exchangeRows_30 : List zE := (30, .iconst 0, [0]) :: (31, .istore_n 3, []) :: (32, .nop, []) :: []
def p_X1_exchangeRows_30 : List (List (Nat × Nat)) := [] :: [] :: [] :: []
def b_X1_exchangeRows_29 : List zE := (29, .return_, []) :: []
def p_X1_exchangeRows_29 : List (List (Nat × Nat)) := [] :: []
def b_X1_exchangeRows_0 : List zE := (0, .iload_n 1, []) :: (1, .iload_n 2, []) :: (2, .if_icmp .eq 27, [29, 0]) :: (5, .iload_n 1, []) :: (6, .ifCond .lt 23, [29, 0]) :: (9, .iload_n 1, []) :: (10, .aload_n 0, []) :: (11, .getfield 47, [1, 7]) :: (14, .if_icmp .ge 15, [29, 0]) :: (17, .iload_n 2, []) :: (18, .ifCond .lt 11, [29, 0]) :: (21, .iload_n 2, []) :: (22, .aload_n 0, []) :: (23, .getfield 47, [1, 7]) :: (26, .if_icmp .lt 4, [30, 0]) :: (29, .nop, [0]) :: []
def p_X1_exchangeRows_0 : List (List (Nat × Nat)) := [] :: [] :: [] :: [] :: [] :: [] :: [] :: [(1, 116)] :: [] :: [] :: [] :: [] :: [] :: [(1, 116)] :: [] :: [] :: []
def bl_X1_exchangeRows : List (Nat × List zE) := [(0, b_X1_exchangeRows_0), (29, b_X1_exchangeRows_29), (30, b_X1_exchangeRows_30), (32, b_X1_exchangeRows_32), (84, b_X1_exchangeRows_84), (96, b_X1_exchangeRows_96), (97, b_X1_exchangeRows_97)]
def pl_X1_exchangeRows : List (List (List (Nat × Nat))) := [p_X1_exchangeRows_0, p_X1_exchangeRows_29, p_X1_exchangeRows_30, p_X1_exchangeRows_32, p_X1_exchangeRows_84, p_X1_exchangeRows_96, p_X1_exchangeRows_97]
theorem k_X1_exchangeRows_0 : zlk 0 bl_X1_exchangeRows = b_X1_exchangeRows_0 := rfl
theorem k_X1_exchangeRows_29 : zlk 29 bl_X1_exchangeRows = b_X1_exchangeRows_29 := rfl
theorem k_X1_exchangeRows_30 : zlk 30 bl_X1_exchangeRows = b_X1_exchangeRows_30 := rfl
theorem k_X1_exchangeRows_32 : zlk 32 bl_X1_exchangeRows = b_X1_exchangeRows_32 := rfl
theorem k_X1_exchangeRows_84 : zlk 84 bl_X1_exchangeRows = b_X1_exchangeRows_84 := rfl
theorem k_X1_exchangeRows_96 : zlk 96 bl_X1_exchangeRows = b_X1_exchangeRows_96 := rfl
theorem k_X1_exchangeRows_97 : zlk 97 bl_X1_exchangeRows = b_X1_exchangeRows_97 := rfl
set_option maxRecDepth 100000 in
theorem ck_X1_exchangeRows : zall q_X1_exchangeRows.2.2.2.2.1 q_X1_exchangeRows.2.1 1 false q_X1_exchangeRows.2.2.1 cal_X1_exchangeRows q_X1_exchangeRows.2.2.2.1 bl_X1_exchangeRows pl_X1_exchangeRows = true := by decide +kernel
theorem nm_X1_exchangeRows : plainName q_X1_exchangeRows.1.cls = true ∧ zRX 1 = q_X1_exchangeRows.1.cls ∧ (false = true → q_X1_exchangeRows.1.name = "<init>") := ⟨by decide +kernel, rfl, fun h => by first | rfl | cases h⟩
set_option maxRecDepth 100000 in
theorem wd_X9_becomeProduct : zwd q_X9_becomeProduct := ⟨zw_in (p := (4, 160)) (by decide +kernel), zw_in (p := (1, 5)) (by decide +kernel), fun h => absurd h (by decide), fun _ => zw_in (p := (4, 158)) (by decide +kernel), fun _ => zw_in (p := (4, 159)) (by decide +kernel)⟩
def cal_X9_becomeProduct : List zCal := [q_X9_zero, q_X9_trim]
def b_X9_becomeProduct_185 : List zE := (185, .aload_n 0, []) :: (186, .iload_n 3, []) :: (187, .putfield 13, [9, 1]) :: (190, .aload_n 0, []) :: (191, .aload_n 1, []) :: (192, .getfield 17, [9, 2]) :: (195, .aload_n 2, []) :: (196, .getfield 17, [9, 2]) :: (199, .imul, []) :: (200, .putfield 17, [9, 2]) :: (203, .aload_n 0, []) :: (204, .invokevirtual 23, [1, 0, 9]) :: (207, .return_, []) :: []
def p_X9_becomeProduct_185 : List (List (Nat × Nat)) := [] :: [] :: [(1, 97)] :: [] :: [] :: [(1, 99)] :: [] :: [(1, 99)] :: [] :: [(1, 99)] :: [] :: [(4, 114)] :: [] :: []
def b_X9_becomeProduct_164 : List zE := (164, .aload_n 0, []) :: (165, .getfield 9, [9, 0]) :: (168, .iload 4, []) :: (170, .aload_n 2, []) :: (171, .getfield 13, [9, 1]) :: (174, .iadd, []) :: (175, .lload 7, []) :: (177, .l2i, []) :: (178, .iastore, []) :: (179, .iinc 4 1, [1]) :: (182, .goto (-118), [64, 1]) :: []
def p_X9_becomeProduct_164 : List (List (Nat × Nat)) := [] :: [(1, 96)] :: [] :: [] :: [(1, 97)] :: [] :: [] :: [] :: [] :: [] :: [] :: []
def b_X9_becomeProduct_93 : List zE := (93, .iload 9, []) :: (95, .aload_n 2, []) :: (96, .getfield 13, [9, 1]) :: (99, .if_icmp .ge 65, [164, 0]) :: (102, .lload 7, []) :: (104, .lload 5, []) :: (106, .aload_n 2, []) :: (107, .getfield 9, [9, 0]) :: (110, .iload 9, []) :: (112, .iaload, []) :: (113, .i2l, []) :: (114, .ldc2_w 32, [4294967295]) :: (117, .land, []) :: (118, .lmul, []) :: (119, .aload_n 0, []) :: (120, .getfield 9, [9, 0]) :: (123, .iload 4, []) :: (125, .iload 9, []) :: (127, .iadd, []) :: (128, .iaload, []) :: (129, .i2l, []) :: (130, .ldc2_w 32, [4294967295]) :: (133, .land, []) :: (134, .ladd, []) :: (135, .ladd, []) :: (136, .lstore 7, []) :: (138, .aload_n 0, []) :: (139, .getfield 9, [9, 0]) :: (142, .iload 4, []) :: (144, .iload 9, []) :: (146, .iadd, []) :: (147, .lload 7, []) :: (149, .l2i, []) :: (150, .iastore, []) :: (151, .lload 7, []) :: (153, .bipush 32, [32]) :: (155, .lushr, []) :: (156, .lstore 7, []) :: (158, .iinc 9 1, [1]) :: (161, .goto (-68), [93, 1]) :: []
def p_X9_becomeProduct_93 : List (List (Nat × Nat)) := [] :: [] :: [(1, 97)] :: [] :: [] :: [] :: [] :: [(1, 96)] :: [] :: [] :: [] :: [(4, 122)] :: [] :: [] :: [] :: [(1, 96)] :: [] :: [] :: [] :: [] :: [] :: [(4, 122)] :: [] :: [] :: [] :: [] :: [] :: [(1, 96)] :: [] :: [] :: [] :: [] :: [] :: [] :: [] :: [] :: [] :: [] :: [] :: [] :: []
def b_X9_becomeProduct_64 : List zE := (64, .iload 4, []) :: (66, .aload_n 1, []) :: (67, .getfield 13, [9, 1]) :: (70, .if_icmp .ge 115, [185, 0]) :: (73, .aload_n 1, []) :: (74, .getfield 9, [9, 0]) :: (77, .iload 4, []) :: (79, .iaload, []) :: (80, .i2l, []) :: (81, .ldc2_w 32, [4294967295]) :: (84, .land, []) :: (85, .lstore 5, []) :: (87, .lconst 0, [0]) :: (88, .lstore 7, []) :: (90, .iconst 0, [0]) :: (91, .istore 9, []) :: (93, .nop, []) :: []
def p_X9_becomeProduct_64 : List (List (Nat × Nat)) := [] :: [] :: [(1, 97)] :: [] :: [] :: [(1, 96)] :: [] :: [] :: [] :: [(4, 122)] :: [] :: [] :: [] :: [] :: [] :: [] :: [] :: []
def b_X9_becomeProduct_61 : List zE := (61, .iconst 0, [0]) :: (62, .istore 4, []) :: (64, .nop, []) :: []
def p_X9_becomeProduct_61 : List (List (Nat × Nat)) := [] :: [] :: [] :: []
def b_X9_becomeProduct_41 : List zE := (41, .iload 4, []) :: (43, .iload_n 3, []) :: (44, .if_icmp .ge 17, [61, 0]) :: (47, .aload_n 0, []) :: (48, .getfield 9, [9, 0]) :: (51, .iload 4, []) :: (53, .iconst 0, [0]) :: (54, .iastore, []) :: (55, .iinc 4 1, [1]) :: (58, .goto (-17), [41, 1]) :: []
def p_X9_becomeProduct_41 : List (List (Nat × Nat)) := [] :: [] :: [] :: [] :: [(1, 96)] :: [] :: [] :: [] :: [] :: [] :: []
def b_X9_becomeProduct_38 : List zE := (38, .iconst 0, [0]) :: (39, .istore 4, []) :: (41, .nop, []) :: []
def p_X9_becomeProduct_38 : List (List (Nat × Nat)) := [] :: [] :: [] :: []
def b_X9_becomeProduct_37 : List zE := (37, .return_, []) :: []
def p_X9_becomeProduct_37 : List (List (Nat × Nat)) := [] :: []
def b_X9_becomeProduct_0 : List zE := (0, .aload_n 0, []) :: (1, .invokevirtual 20, [0, 0, 9]) :: (4, .aload_n 1, []) :: (5, .getfield 13, [9, 1]) :: (8, .aload_n 2, []) :: (9, .getfield 13, [9, 1]) :: (12, .iadd, []) :: (13, .istore_n 3, []) :: (14, .aload_n 1, []) :: (15, .getfield 17, [9, 2]) :: (18, .ifCond .eq 19, [37, 0]) :: (21, .aload_n 2, []) :: (22, .getfield 17, [9, 2]) :: (25, .ifCond .eq 12, [37, 0]) :: (28, .iload_n 3, []) :: (29, .aload_n 0, []) :: (30, .getfield 9, [9, 0]) :: (33, .arraylength, []) :: (34, .if_icmp .le 4, [38, 0]) :: (37, .nop, [0]) :: []
def p_X9_becomeProduct_0 : List (List (Nat × Nat)) := [] :: [(4, 113)] :: [] :: [(1, 97)] :: [] :: [(1, 97)] :: [] :: [] :: [] :: [(1, 99)] :: [] :: [] :: [(1, 99)] :: [] :: [] :: [] :: [(1, 96)] :: [] :: [] :: [] :: []
def bl_X9_becomeProduct : List (Nat × List zE) := [(0, b_X9_becomeProduct_0), (37, b_X9_becomeProduct_37), (38, b_X9_becomeProduct_38), (41, b_X9_becomeProduct_41), (61, b_X9_becomeProduct_61), (64, b_X9_becomeProduct_64), (93, b_X9_becomeProduct_93), (164, b_X9_becomeProduct_164), (185, b_X9_becomeProduct_185)]
def pl_X9_becomeProduct : List (List (List (Nat × Nat))) := [p_X9_becomeProduct_0, p_X9_becomeProduct_37, p_X9_becomeProduct_38, p_X9_becomeProduct_41, p_X9_becomeProduct_61, p_X9_becomeProduct_64, p_X9_becomeProduct_93, p_X9_becomeProduct_164, p_X9_becomeProduct_185]
theorem k_X9_becomeProduct_0 : zlk 0 bl_X9_becomeProduct = b_X9_becomeProduct_0 := rfl
theorem k_X9_becomeProduct_37 : zlk 37 bl_X9_becomeProduct = b_X9_becomeProduct_37 := rfl
theorem k_X9_becomeProduct_38 : zlk 38 bl_X9_becomeProduct = b_X9_becomeProduct_38 := rfl
theorem k_X9_becomeProduct_41 : zlk 41 bl_X9_becomeProduct = b_X9_becomeProduct_41 := rfl
theorem k_X9_becomeProduct_61 : zlk 61 bl_X9_becomeProduct = b_X9_becomeProduct_61 := rfl
theorem k_X9_becomeProduct_64 : zlk 64 bl_X9_becomeProduct = b_X9_becomeProduct_64 := rfl
theorem k_X9_becomeProduct_93 : zlk 93 bl_X9_becomeProduct = b_X9_becomeProduct_93 := rfl
theorem k_X9_becomeProduct_164 : zlk 164 bl_X9_becomeProduct = b_X9_becomeProduct_164 := rfl
theorem k_X9_becomeProduct_185 : zlk 185 bl_X9_becomeProduct = b_X9_becomeProduct_185 := rfl
set_option maxRecDepth 100000 in
theorem ck_X9_becomeProduct : zall q_X9_becomeProduct.2.2.2.2.1 q_X9_becomeProduct.2.1 9 false q_X9_becomeProduct.2.2.1 cal_X9_becomeProduct q_X9_becomeProduct.2.2.2.1 bl_X9_becomeProduct pl_X9_becomeProduct = true := by decide +kernel
theorem nm_X9_becomeProduct : plainName q_X9_becomeProduct.1.cls = true ∧ zRX 9 = q_X9_becomeProduct.1.cls ∧ (false = true → q_X9_becomeProduct.1.name = "<init>") := ⟨by decide +kernel, rfl, fun h => by first | rfl | cases h⟩
set_option maxRecDepth 100000 in
theorem wd_X9_copy : zwd q_X9_copy := ⟨zw_in (p := (4, 168)) (by decide +kernel), zw_in (p := (1, 5)) (by decide +kernel), fun h => absurd h (by decide), fun _ => zw_in (p := (4, 166)) (by decide +kernel), fun _ => zw_in (p := (4, 167)) (by decide +kernel)⟩
def cal_X9_copy : List zCal := [q_X9_zero]
def b_X9_copy_45 : List zE := (45, .aload_n 0, []) :: (46, .aload_n 1, []) :: (47, .getfield 13, [9, 1]) :: (50, .putfield 13, [9, 1]) :: (53, .aload_n 0, []) :: (54, .aload_n 1, []) :: (55, .getfield 17, [9, 2]) :: (58, .putfield 17, [9, 2]) :: (61, .return_, []) :: []
def p_X9_copy_45 : List (List (Nat × Nat)) := [] :: [] :: [(1, 97)] :: [(1, 97)] :: [] :: [] :: [(1, 99)] :: [(1, 99)] :: [] :: []
def b_X9_copy_19 : List zE := (19, .iload_n 2, []) :: (20, .aload_n 1, []) :: (21, .getfield 13, [9, 1]) :: (24, .if_icmp .ge 21, [45, 0]) :: (27, .aload_n 0, []) :: (28, .getfield 9, [9, 0]) :: (31, .iload_n 2, []) :: (32, .aload_n 1, []) :: (33, .getfield 9, [9, 0]) :: (36, .iload_n 2, []) :: (37, .iaload, []) :: (38, .iastore, []) :: (39, .iinc 2 1, [1]) :: (42, .goto (-23), [19, 1]) :: []
def p_X9_copy_19 : List (List (Nat × Nat)) := [] :: [] :: [(1, 97)] :: [] :: [] :: [(1, 96)] :: [] :: [] :: [(1, 96)] :: [] :: [] :: [] :: [] :: [] :: []
def b_X9_copy_17 : List zE := (17, .iconst 0, [0]) :: (18, .istore_n 2, []) :: (19, .nop, []) :: []
def p_X9_copy_17 : List (List (Nat × Nat)) := [] :: [] :: [] :: []
def b_X9_copy_0 : List zE := (0, .aload_n 0, []) :: (1, .invokevirtual 20, [0, 0, 9]) :: (4, .aload_n 1, []) :: (5, .getfield 13, [9, 1]) :: (8, .aload_n 0, []) :: (9, .getfield 9, [9, 0]) :: (12, .arraylength, []) :: (13, .if_icmp .le 4, [17, 0]) :: (16, .return_, []) :: []
def p_X9_copy_0 : List (List (Nat × Nat)) := [] :: [(4, 113)] :: [] :: [(1, 97)] :: [] :: [(1, 96)] :: [] :: [] :: [] :: []
def bl_X9_copy : List (Nat × List zE) := [(0, b_X9_copy_0), (17, b_X9_copy_17), (19, b_X9_copy_19), (45, b_X9_copy_45)]
def pl_X9_copy : List (List (List (Nat × Nat))) := [p_X9_copy_0, p_X9_copy_17, p_X9_copy_19, p_X9_copy_45]
theorem k_X9_copy_0 : zlk 0 bl_X9_copy = b_X9_copy_0 := rfl
theorem k_X9_copy_17 : zlk 17 bl_X9_copy = b_X9_copy_17 := rfl
theorem k_X9_copy_19 : zlk 19 bl_X9_copy = b_X9_copy_19 := rfl
theorem k_X9_copy_45 : zlk 45 bl_X9_copy = b_X9_copy_45 := rfl
set_option maxRecDepth 100000 in
theorem ck_X9_copy : zall q_X9_copy.2.2.2.2.1 q_X9_copy.2.1 9 false q_X9_copy.2.2.1 cal_X9_copy q_X9_copy.2.2.2.1 bl_X9_copy pl_X9_copy = true := by decide +kernel
theorem nm_X9_copy : plainName q_X9_copy.1.cls = true ∧ zRX 9 = q_X9_copy.1.cls ∧ (false = true → q_X9_copy.1.name = "<init>") := ⟨by decide +kernel, rfl, fun h => by first | rfl | cases h⟩
set_option maxRecDepth 100000 in
theorem wd_X9_addSize : zwd q_X9_addSize := ⟨zw_in (p := (4, 172)) (by decide +kernel), zw_in (p := (1, 5)) (by decide +kernel), fun h => absurd h (by decide), fun _ => zw_in (p := (4, 170)) (by decide +kernel), fun _ => zw_in (p := (4, 171)) (by decide +kernel)⟩
def cal_X9_addSize : List zCal := [q_X9_trim]
def b_X9_addSize_149 : List zE := (149, .putfield 17, [9, 2]) :: (152, .aload_n 0, []) :: (153, .invokevirtual 23, [0, 0, 9]) :: (156, .return_, []) :: []
def p_X9_addSize_149 : List (List (Nat × Nat)) := [(1, 99)] :: [] :: [(4, 114)] :: [] :: []
def b_X9_addSize_145 : List zE := (145, .aload_n 0, []) :: (146, .getfield 17, [9, 2]) :: (149, .nop, [0]) :: []
def p_X9_addSize_145 : List (List (Nat × Nat)) := [] :: [(1, 99)] :: [] :: []
def b_X9_addSize_118 : List zE := (118, .aload_n 0, []) :: (119, .getfield 9, [9, 0]) :: (122, .iload_n 2, []) :: (123, .lload_n 3, []) :: (124, .l2i, []) :: (125, .iastore, []) :: (126, .aload_n 0, []) :: (127, .iload_n 2, []) :: (128, .iconst 1, [1]) :: (129, .iadd, []) :: (130, .putfield 13, [9, 1]) :: (133, .aload_n 0, []) :: (134, .aload_n 0, []) :: (135, .getfield 17, [9, 2]) :: (138, .ifCond .ne 7, [145, 0]) :: (141, .iconst 1, [1]) :: (142, .goto 7, [149, 0]) :: []
def p_X9_addSize_118 : List (List (Nat × Nat)) := [] :: [(1, 96)] :: [] :: [] :: [] :: [] :: [] :: [] :: [] :: [] :: [(1, 97)] :: [] :: [] :: [(1, 99)] :: [] :: [] :: [] :: []
def b_X9_addSize_96 : List zE := (96, .ladd, []) :: (97, .lstore_n 3, []) :: (98, .aload_n 0, []) :: (99, .getfield 9, [9, 0]) :: (102, .iload 5, []) :: (104, .lload_n 3, []) :: (105, .l2i, []) :: (106, .iastore, []) :: (107, .lload_n 3, []) :: (108, .bipush 32, [32]) :: (110, .lushr, []) :: (111, .lstore_n 3, []) :: (112, .iinc 5 1, [1]) :: (115, .goto (-79), [36, 1]) :: []
def p_X9_addSize_96 : List (List (Nat × Nat)) := [] :: [] :: [] :: [(1, 96)] :: [] :: [] :: [] :: [] :: [] :: [] :: [] :: [] :: [] :: [] :: []
def b_X9_addSize_95 : List zE := (95, .lconst 0, [0]) :: (96, .nop, [0]) :: []
def p_X9_addSize_95 : List (List (Nat × Nat)) := [] :: [] :: []
def b_X9_addSize_68 : List zE := (68, .ladd, []) :: (69, .lstore_n 3, []) :: (70, .lload_n 3, []) :: (71, .iload 5, []) :: (73, .aload_n 1, []) :: (74, .getfield 13, [9, 1]) :: (77, .if_icmp .ge 18, [95, 0]) :: (80, .aload_n 1, []) :: (81, .getfield 9, [9, 0]) :: (84, .iload 5, []) :: (86, .iaload, []) :: (87, .i2l, []) :: (88, .ldc2_w 32, [4294967295]) :: (91, .land, []) :: (92, .goto 4, [96, 0]) :: []
def p_X9_addSize_68 : List (List (Nat × Nat)) := [] :: [] :: [] :: [] :: [] :: [(1, 97)] :: [] :: [] :: [(1, 96)] :: [] :: [] :: [] :: [(4, 122)] :: [] :: [] :: []
def b_X9_addSize_67 : List zE := (67, .lconst 0, [0]) :: (68, .nop, [0]) :: []
def p_X9_addSize_67 : List (List (Nat × Nat)) := [] :: [] :: []
def b_X9_addSize_36 : List zE := (36, .iload 5, []) :: (38, .iload_n 2, []) :: (39, .if_icmp .ge 79, [118, 0]) :: (42, .lload_n 3, []) :: (43, .iload 5, []) :: (45, .aload_n 0, []) :: (46, .getfield 13, [9, 1]) :: (49, .if_icmp .ge 18, [67, 0]) :: (52, .aload_n 0, []) :: (53, .getfield 9, [9, 0]) :: (56, .iload 5, []) :: (58, .iaload, []) :: (59, .i2l, []) :: (60, .ldc2_w 32, [4294967295]) :: (63, .land, []) :: (64, .goto 4, [68, 0]) :: []
def p_X9_addSize_36 : List (List (Nat × Nat)) := [] :: [] :: [] :: [] :: [] :: [] :: [(1, 97)] :: [] :: [] :: [(1, 96)] :: [] :: [] :: [] :: [(4, 122)] :: [] :: [] :: []
def b_X9_addSize_31 : List zE := (31, .lconst 0, [0]) :: (32, .lstore_n 3, []) :: (33, .iconst 0, [0]) :: (34, .istore 5, []) :: (36, .nop, []) :: []
def p_X9_addSize_31 : List (List (Nat × Nat)) := [] :: [] :: [] :: [] :: [] :: []
def b_X9_addSize_30 : List zE := (30, .return_, []) :: []
def p_X9_addSize_30 : List (List (Nat × Nat)) := [] :: []
def b_X9_addSize_0 : List zE := (0, .aload_n 0, []) :: (1, .getfield 13, [9, 1]) :: (4, .aload_n 1, []) :: (5, .getfield 13, [9, 1]) :: (8, .invokestatic 41, [102]) :: (11, .istore_n 2, []) :: (12, .iload_n 2, []) :: (13, .iconst 1, [1]) :: (14, .iadd, []) :: (15, .aload_n 0, []) :: (16, .getfield 9, [9, 0]) :: (19, .arraylength, []) :: (20, .if_icmp .gt 10, [30, 0]) :: (23, .aload_n 1, []) :: (24, .getfield 17, [9, 2]) :: (27, .ifCond .ne 4, [31, 0]) :: (30, .nop, [0]) :: []
def p_X9_addSize_0 : List (List (Nat × Nat)) := [] :: [(1, 97)] :: [] :: [(1, 97)] :: [(4, 140), (2, 197), (1, 14), (2, 198)] :: [] :: [] :: [] :: [] :: [] :: [(1, 96)] :: [] :: [] :: [] :: [(1, 99)] :: [] :: [] :: []
def bl_X9_addSize : List (Nat × List zE) := [(0, b_X9_addSize_0), (30, b_X9_addSize_30), (31, b_X9_addSize_31), (36, b_X9_addSize_36), (67, b_X9_addSize_67), (68, b_X9_addSize_68), (95, b_X9_addSize_95), (96, b_X9_addSize_96), (118, b_X9_addSize_118), (145, b_X9_addSize_145), (149, b_X9_addSize_149)]
def pl_X9_addSize : List (List (List (Nat × Nat))) := [p_X9_addSize_0, p_X9_addSize_30, p_X9_addSize_31, p_X9_addSize_36, p_X9_addSize_67, p_X9_addSize_68, p_X9_addSize_95, p_X9_addSize_96, p_X9_addSize_118, p_X9_addSize_145, p_X9_addSize_149]
theorem k_X9_addSize_0 : zlk 0 bl_X9_addSize = b_X9_addSize_0 := rfl
theorem k_X9_addSize_30 : zlk 30 bl_X9_addSize = b_X9_addSize_30 := rfl
theorem k_X9_addSize_31 : zlk 31 bl_X9_addSize = b_X9_addSize_31 := rfl
theorem k_X9_addSize_36 : zlk 36 bl_X9_addSize = b_X9_addSize_36 := rfl
theorem k_X9_addSize_67 : zlk 67 bl_X9_addSize = b_X9_addSize_67 := rfl
theorem k_X9_addSize_68 : zlk 68 bl_X9_addSize = b_X9_addSize_68 := rfl
theorem k_X9_addSize_95 : zlk 95 bl_X9_addSize = b_X9_addSize_95 := rfl
theorem k_X9_addSize_96 : zlk 96 bl_X9_addSize = b_X9_addSize_96 := rfl
theorem k_X9_addSize_118 : zlk 118 bl_X9_addSize = b_X9_addSize_118 := rfl
theorem k_X9_addSize_145 : zlk 145 bl_X9_addSize = b_X9_addSize_145 := rfl
theorem k_X9_addSize_149 : zlk 149 bl_X9_addSize = b_X9_addSize_149 := rfl
set_option maxRecDepth 100000 in
theorem ck_X9_addSize : zall q_X9_addSize.2.2.2.2.1 q_X9_addSize.2.1 9 false q_X9_addSize.2.2.1 cal_X9_addSize q_X9_addSize.2.2.2.1 bl_X9_addSize pl_X9_addSize = true := by decide +kernel
theorem nm_X9_addSize : plainName q_X9_addSize.1.cls = true ∧ zRX 9 = q_X9_addSize.1.cls ∧ (false = true → q_X9_addSize.1.name = "<init>") := ⟨by decide +kernel, rfl, fun h => by first | rfl | cases h⟩
set_option maxRecDepth 100000 in
theorem wd_X9_compareSize : zwd q_X9_compareSize := ⟨zw_in (p := (4, 176)) (by decide +kernel), zw_in (p := (1, 5)) (by decide +kernel), fun h => absurd h (by decide), fun _ => zw_in (p := (4, 174)) (by decide +kernel), fun _ => zw_in (p := (4, 175)) (by decide +kernel)⟩
def cal_X9_compareSize : List zCal := []
def b_X9_compareSize_92 : List zE := (92, .iconst 0, [0]) :: (93, .ireturn, []) :: []
def p_X9_compareSize_92 : List (List (Nat × Nat)) := [] :: [] :: []
def b_X9_compareSize_86 : List zE := (86, .iinc 2 (-1), [4294967295]) :: (89, .goto (-54), [35, 1]) :: []
def p_X9_compareSize_86 : List (List (Nat × Nat)) := [] :: [] :: []
def b_X9_compareSize_85 : List zE := (85, .ireturn, []) :: []
def p_X9_compareSize_85 : List (List (Nat × Nat)) := [] :: []
def b_X9_compareSize_84 : List zE := (84, .iconst (-1), [4294967295]) :: (85, .nop, [0]) :: []
def p_X9_compareSize_84 : List (List (Nat × Nat)) := [] :: [] :: []
def b_X9_compareSize_35 : List zE := (35, .iload_n 2, []) :: (36, .ifCond .lt 56, [92, 0]) :: (39, .aload_n 0, []) :: (40, .getfield 9, [9, 0]) :: (43, .iload_n 2, []) :: (44, .iaload, []) :: (45, .aload_n 1, []) :: (46, .getfield 9, [9, 0]) :: (49, .iload_n 2, []) :: (50, .iaload, []) :: (51, .if_icmp .eq 35, [86, 0]) :: (54, .aload_n 0, []) :: (55, .getfield 9, [9, 0]) :: (58, .iload_n 2, []) :: (59, .iaload, []) :: (60, .i2l, []) :: (61, .ldc2_w 32, [4294967295]) :: (64, .land, []) :: (65, .aload_n 1, []) :: (66, .getfield 9, [9, 0]) :: (69, .iload_n 2, []) :: (70, .iaload, []) :: (71, .i2l, []) :: (72, .ldc2_w 32, [4294967295]) :: (75, .land, []) :: (76, .lcmp, []) :: (77, .ifCond .le 7, [84, 0]) :: (80, .iconst 1, [1]) :: (81, .goto 4, [85, 0]) :: []
def p_X9_compareSize_35 : List (List (Nat × Nat)) := [] :: [] :: [] :: [(1, 96)] :: [] :: [] :: [] :: [(1, 96)] :: [] :: [] :: [] :: [] :: [(1, 96)] :: [] :: [] :: [] :: [(4, 122)] :: [] :: [] :: [(1, 96)] :: [] :: [] :: [] :: [(4, 122)] :: [] :: [] :: [] :: [] :: [] :: []
def b_X9_compareSize_28 : List zE := (28, .aload_n 0, []) :: (29, .getfield 13, [9, 1]) :: (32, .iconst 1, [1]) :: (33, .isub, []) :: (34, .istore_n 2, []) :: (35, .nop, []) :: []
def p_X9_compareSize_28 : List (List (Nat × Nat)) := [] :: [(1, 97)] :: [] :: [] :: [] :: [] :: []
def b_X9_compareSize_27 : List zE := (27, .ireturn, []) :: []
def p_X9_compareSize_27 : List (List (Nat × Nat)) := [] :: []
def b_X9_compareSize_26 : List zE := (26, .iconst (-1), [4294967295]) :: (27, .nop, [0]) :: []
def p_X9_compareSize_26 : List (List (Nat × Nat)) := [] :: [] :: []
def b_X9_compareSize_0 : List zE := (0, .aload_n 0, []) :: (1, .getfield 13, [9, 1]) :: (4, .aload_n 1, []) :: (5, .getfield 13, [9, 1]) :: (8, .if_icmp .eq 20, [28, 0]) :: (11, .aload_n 0, []) :: (12, .getfield 13, [9, 1]) :: (15, .aload_n 1, []) :: (16, .getfield 13, [9, 1]) :: (19, .if_icmp .le 7, [26, 0]) :: (22, .iconst 1, [1]) :: (23, .goto 4, [27, 0]) :: []
def p_X9_compareSize_0 : List (List (Nat × Nat)) := [] :: [(1, 97)] :: [] :: [(1, 97)] :: [] :: [] :: [(1, 97)] :: [] :: [(1, 97)] :: [] :: [] :: [] :: []
def bl_X9_compareSize : List (Nat × List zE) := [(0, b_X9_compareSize_0), (26, b_X9_compareSize_26), (27, b_X9_compareSize_27), (28, b_X9_compareSize_28), (35, b_X9_compareSize_35), (84, b_X9_compareSize_84), (85, b_X9_compareSize_85), (86, b_X9_compareSize_86), (92, b_X9_compareSize_92)]
def pl_X9_compareSize : List (List (List (Nat × Nat))) := [p_X9_compareSize_0, p_X9_compareSize_26, p_X9_compareSize_27, p_X9_compareSize_28, p_X9_compareSize_35, p_X9_compareSize_84, p_X9_compareSize_85, p_X9_compareSize_86, p_X9_compareSize_92]
theorem k_X9_compareSize_0 : zlk 0 bl_X9_compareSize = b_X9_compareSize_0 := rfl
theorem k_X9_compareSize_26 : zlk 26 bl_X9_compareSize = b_X9_compareSize_26 := rfl
theorem k_X9_compareSize_27 : zlk 27 bl_X9_compareSize = b_X9_compareSize_27 := rfl
theorem k_X9_compareSize_28 : zlk 28 bl_X9_compareSize = b_X9_compareSize_28 := rfl
theorem k_X9_compareSize_35 : zlk 35 bl_X9_compareSize = b_X9_compareSize_35 := rfl
theorem k_X9_compareSize_84 : zlk 84 bl_X9_compareSize = b_X9_compareSize_84 := rfl
theorem k_X9_compareSize_85 : zlk 85 bl_X9_compareSize = b_X9_compareSize_85 := rfl
theorem k_X9_compareSize_86 : zlk 86 bl_X9_compareSize = b_X9_compareSize_86 := rfl
theorem k_X9_compareSize_92 : zlk 92 bl_X9_compareSize = b_X9_compareSize_92 := rfl
set_option maxRecDepth 100000 in
theorem ck_X9_compareSize : zall q_X9_compareSize.2.2.2.2.1 q_X9_compareSize.2.1 9 false q_X9_compareSize.2.2.1 cal_X9_compareSize q_X9_compareSize.2.2.2.1 bl_X9_compareSize pl_X9_compareSize = true := by decide +kernel
theorem nm_X9_compareSize : plainName q_X9_compareSize.1.cls = true ∧ zRX 9 = q_X9_compareSize.1.cls ∧ (false = true → q_X9_compareSize.1.name = "<init>") := ⟨by decide +kernel, rfl, fun h => by first | rfl | cases h⟩
set_option maxRecDepth 100000 in
theorem wd_X9_lessSize : zwd q_X9_lessSize := ⟨zw_in (p := (4, 180)) (by decide +kernel), zw_in (p := (1, 5)) (by decide +kernel), fun h => absurd h (by decide), fun _ => zw_in (p := (4, 178)) (by decide +kernel), fun _ => zw_in (p := (4, 179)) (by decide +kernel)⟩
def cal_X9_lessSize : List zCal := [q_X9_trim]
def b_X9_lessSize_131 : List zE := (131, .aload_n 0, []) :: (132, .iload_n 3, []) :: (133, .putfield 13, [9, 1]) :: (136, .aload_n 0, []) :: (137, .invokevirtual 23, [0, 0, 9]) :: (140, .return_, []) :: []
def p_X9_lessSize_131 : List (List (Nat × Nat)) := [] :: [] :: [(1, 97)] :: [] :: [(4, 114)] :: [] :: []
def b_X9_lessSize_105 : List zE := (105, .ladd, []) :: (106, .lstore 4, []) :: (108, .aload_n 0, []) :: (109, .getfield 9, [9, 0]) :: (112, .iload 6, []) :: (114, .lload 4, []) :: (116, .l2i, []) :: (117, .iastore, []) :: (118, .lload 4, []) :: (120, .bipush 32, [32]) :: (122, .lshr, []) :: (123, .lstore 4, []) :: (125, .iinc 6 1, [1]) :: (128, .goto (-102), [26, 1]) :: []
def p_X9_lessSize_105 : List (List (Nat × Nat)) := [] :: [] :: [] :: [(1, 96)] :: [] :: [] :: [] :: [] :: [] :: [] :: [] :: [] :: [] :: [] :: []
def b_X9_lessSize_100 : List zE := (100, .lload 7, []) :: (102, .lload 9, []) :: (104, .lsub, []) :: (105, .nop, [0]) :: []
def p_X9_lessSize_100 : List (List (Nat × Nat)) := [] :: [] :: [] :: [] :: []
def b_X9_lessSize_84 : List zE := (84, .lstore 9, []) :: (86, .lload 4, []) :: (88, .iload_n 2, []) :: (89, .ifCond .eq 11, [100, 0]) :: (92, .lload 9, []) :: (94, .lload 7, []) :: (96, .lsub, []) :: (97, .goto 8, [105, 0]) :: []
def p_X9_lessSize_84 : List (List (Nat × Nat)) := [] :: [] :: [] :: [] :: [] :: [] :: [] :: [] :: []
def b_X9_lessSize_83 : List zE := (83, .lconst 0, [0]) :: (84, .nop, [0]) :: []
def p_X9_lessSize_83 : List (List (Nat × Nat)) := [] :: [] :: []
def b_X9_lessSize_57 : List zE := (57, .lstore 7, []) :: (59, .iload 6, []) :: (61, .aload_n 1, []) :: (62, .getfield 13, [9, 1]) :: (65, .if_icmp .ge 18, [83, 0]) :: (68, .aload_n 1, []) :: (69, .getfield 9, [9, 0]) :: (72, .iload 6, []) :: (74, .iaload, []) :: (75, .i2l, []) :: (76, .ldc2_w 32, [4294967295]) :: (79, .land, []) :: (80, .goto 4, [84, 0]) :: []
def p_X9_lessSize_57 : List (List (Nat × Nat)) := [] :: [] :: [] :: [(1, 97)] :: [] :: [] :: [(1, 96)] :: [] :: [] :: [] :: [(4, 122)] :: [] :: [] :: []
def b_X9_lessSize_56 : List zE := (56, .lconst 0, [0]) :: (57, .nop, [0]) :: []
def p_X9_lessSize_56 : List (List (Nat × Nat)) := [] :: [] :: []
def b_X9_lessSize_26 : List zE := (26, .iload 6, []) :: (28, .iload_n 3, []) :: (29, .if_icmp .ge 102, [131, 0]) :: (32, .iload 6, []) :: (34, .aload_n 0, []) :: (35, .getfield 13, [9, 1]) :: (38, .if_icmp .ge 18, [56, 0]) :: (41, .aload_n 0, []) :: (42, .getfield 9, [9, 0]) :: (45, .iload 6, []) :: (47, .iaload, []) :: (48, .i2l, []) :: (49, .ldc2_w 32, [4294967295]) :: (52, .land, []) :: (53, .goto 4, [57, 0]) :: []
def p_X9_lessSize_26 : List (List (Nat × Nat)) := [] :: [] :: [] :: [] :: [] :: [(1, 97)] :: [] :: [] :: [(1, 96)] :: [] :: [] :: [] :: [(4, 122)] :: [] :: [] :: []
def b_X9_lessSize_0 : List zE := (0, .aload_n 0, []) :: (1, .getfield 13, [9, 1]) :: (4, .aload_n 1, []) :: (5, .getfield 13, [9, 1]) :: (8, .invokestatic 41, [102]) :: (11, .aload_n 0, []) :: (12, .getfield 9, [9, 0]) :: (15, .arraylength, []) :: (16, .invokestatic 62, [103]) :: (19, .istore_n 3, []) :: (20, .lconst 0, [0]) :: (21, .lstore 4, []) :: (23, .iconst 0, [0]) :: (24, .istore 6, []) :: (26, .nop, []) :: []
def p_X9_lessSize_0 : List (List (Nat × Nat)) := [] :: [(1, 97)] :: [] :: [(1, 97)] :: [(4, 140), (2, 197), (1, 14), (2, 198)] :: [] :: [(1, 96)] :: [] :: [(4, 181), (4, 1), (1, 14), (4, 2)] :: [] :: [] :: [] :: [] :: [] :: [] :: []
def bl_X9_lessSize : List (Nat × List zE) := [(0, b_X9_lessSize_0), (26, b_X9_lessSize_26), (56, b_X9_lessSize_56), (57, b_X9_lessSize_57), (83, b_X9_lessSize_83), (84, b_X9_lessSize_84), (100, b_X9_lessSize_100), (105, b_X9_lessSize_105), (131, b_X9_lessSize_131)]
def pl_X9_lessSize : List (List (List (Nat × Nat))) := [p_X9_lessSize_0, p_X9_lessSize_26, p_X9_lessSize_56, p_X9_lessSize_57, p_X9_lessSize_83, p_X9_lessSize_84, p_X9_lessSize_100, p_X9_lessSize_105, p_X9_lessSize_131]
theorem k_X9_lessSize_0 : zlk 0 bl_X9_lessSize = b_X9_lessSize_0 := rfl
theorem k_X9_lessSize_26 : zlk 26 bl_X9_lessSize = b_X9_lessSize_26 := rfl
theorem k_X9_lessSize_56 : zlk 56 bl_X9_lessSize = b_X9_lessSize_56 := rfl
theorem k_X9_lessSize_57 : zlk 57 bl_X9_lessSize = b_X9_lessSize_57 := rfl
theorem k_X9_lessSize_83 : zlk 83 bl_X9_lessSize = b_X9_lessSize_83 := rfl
theorem k_X9_lessSize_84 : zlk 84 bl_X9_lessSize = b_X9_lessSize_84 := rfl
theorem k_X9_lessSize_100 : zlk 100 bl_X9_lessSize = b_X9_lessSize_100 := rfl
theorem k_X9_lessSize_105 : zlk 105 bl_X9_lessSize = b_X9_lessSize_105 := rfl
theorem k_X9_lessSize_131 : zlk 131 bl_X9_lessSize = b_X9_lessSize_131 := rfl
set_option maxRecDepth 100000 in
theorem ck_X9_lessSize : zall q_X9_lessSize.2.2.2.2.1 q_X9_lessSize.2.1 9 false q_X9_lessSize.2.2.1 cal_X9_lessSize q_X9_lessSize.2.2.2.1 bl_X9_lessSize pl_X9_lessSize = true := by decide +kernel
theorem nm_X9_lessSize : plainName q_X9_lessSize.1.cls = true ∧ zRX 9 = q_X9_lessSize.1.cls ∧ (false = true → q_X9_lessSize.1.name = "<init>") := ⟨by decide +kernel, rfl, fun h => by first | rfl | cases h⟩
set_option maxRecDepth 100000 in
theorem wd_X9_subtract : zwd q_X9_subtract := ⟨zw_in (p := (4, 164)) (by decide +kernel), zw_in (p := (1, 5)) (by decide +kernel), fun h => absurd h (by decide), fun _ => zw_in (p := (4, 162)) (by decide +kernel), fun _ => zw_in (p := (4, 163)) (by decide +kernel)⟩
def cal_X9_subtract : List zCal := [q_X9_copy, q_X9_addSize, q_X9_compareSize, q_X9_lessSize]
def b_X9_subtract_83 : List zE := (83, .return_, []) :: []
def p_X9_subtract_83 : List (List (Nat × Nat)) := [] :: []
def b_X9_subtract_68 : List zE := (68, .aload_n 0, []) :: (69, .aload_n 1, []) :: (70, .iconst 1, [1]) :: (71, .invokevirtual 58, [3, 2, 9]) :: (74, .aload_n 0, []) :: (75, .aload_n 0, []) :: (76, .getfield 17, [9, 2]) :: (79, .ineg, []) :: (80, .putfield 17, [9, 2]) :: (83, .nop, [0]) :: []
def p_X9_subtract_68 : List (List (Nat × Nat)) := [] :: [] :: [] :: [(4, 177)] :: [] :: [] :: [(1, 99)] :: [] :: [(1, 99)] :: [] :: []
def b_X9_subtract_51 : List zE := (51, .aload_n 0, []) :: (52, .aload_n 1, []) :: (53, .invokevirtual 54, [2, 1, 9]) :: (56, .ifCond .lt 12, [68, 0]) :: (59, .aload_n 0, []) :: (60, .aload_n 1, []) :: (61, .iconst 0, [0]) :: (62, .invokevirtual 58, [3, 2, 9]) :: (65, .goto 18, [83, 0]) :: []
def p_X9_subtract_51 : List (List (Nat × Nat)) := [] :: [] :: [(4, 173)] :: [] :: [] :: [] :: [] :: [(4, 177)] :: [] :: []
def b_X9_subtract_32 : List zE := (32, .aload_n 0, []) :: (33, .getfield 17, [9, 2]) :: (36, .aload_n 1, []) :: (37, .getfield 17, [9, 2]) :: (40, .if_icmp .eq 11, [51, 0]) :: (43, .aload_n 0, []) :: (44, .aload_n 1, []) :: (45, .invokevirtual 51, [1, 1, 9]) :: (48, .goto 35, [83, 0]) :: []
def p_X9_subtract_32 : List (List (Nat × Nat)) := [] :: [(1, 99)] :: [] :: [(1, 99)] :: [] :: [] :: [] :: [(4, 169)] :: [] :: []
def b_X9_subtract_8 : List zE := (8, .aload_n 0, []) :: (9, .getfield 17, [9, 2]) :: (12, .ifCond .ne 20, [32, 0]) :: (15, .aload_n 0, []) :: (16, .aload_n 1, []) :: (17, .invokevirtual 47, [0, 1, 9]) :: (20, .aload_n 0, []) :: (21, .aload_n 0, []) :: (22, .getfield 17, [9, 2]) :: (25, .ineg, []) :: (26, .putfield 17, [9, 2]) :: (29, .goto 54, [83, 0]) :: []
def p_X9_subtract_8 : List (List (Nat × Nat)) := [] :: [(1, 99)] :: [] :: [] :: [] :: [(4, 165)] :: [] :: [] :: [(1, 99)] :: [] :: [(1, 99)] :: [] :: []
def b_X9_subtract_0 : List zE := (0, .aload_n 1, []) :: (1, .getfield 17, [9, 2]) :: (4, .ifCond .ne 4, [8, 0]) :: (7, .return_, []) :: []
def p_X9_subtract_0 : List (List (Nat × Nat)) := [] :: [(1, 99)] :: [] :: [] :: []
def bl_X9_subtract : List (Nat × List zE) := [(0, b_X9_subtract_0), (8, b_X9_subtract_8), (32, b_X9_subtract_32), (51, b_X9_subtract_51), (68, b_X9_subtract_68), (83, b_X9_subtract_83)]
def pl_X9_subtract : List (List (List (Nat × Nat))) := [p_X9_subtract_0, p_X9_subtract_8, p_X9_subtract_32, p_X9_subtract_51, p_X9_subtract_68, p_X9_subtract_83]
theorem k_X9_subtract_0 : zlk 0 bl_X9_subtract = b_X9_subtract_0 := rfl
theorem k_X9_subtract_8 : zlk 8 bl_X9_subtract = b_X9_subtract_8 := rfl
theorem k_X9_subtract_32 : zlk 32 bl_X9_subtract = b_X9_subtract_32 := rfl
theorem k_X9_subtract_51 : zlk 51 bl_X9_subtract = b_X9_subtract_51 := rfl
theorem k_X9_subtract_68 : zlk 68 bl_X9_subtract = b_X9_subtract_68 := rfl
theorem k_X9_subtract_83 : zlk 83 bl_X9_subtract = b_X9_subtract_83 := rfl
set_option maxRecDepth 100000 in
theorem ck_X9_subtract : zall q_X9_subtract.2.2.2.2.1 q_X9_subtract.2.1 9 false q_X9_subtract.2.2.1 cal_X9_subtract q_X9_subtract.2.2.2.1 bl_X9_subtract pl_X9_subtract = true := by decide +kernel
theorem nm_X9_subtract : plainName q_X9_subtract.1.cls = true ∧ zRX 9 = q_X9_subtract.1.cls ∧ (false = true → q_X9_subtract.1.name = "<init>") := ⟨by decide +kernel, rfl, fun h => by first | rfl | cases h⟩
set_option maxRecDepth 100000 in
theorem wd_X9_takeMultiple : zwd q_X9_takeMultiple := ⟨zw_in (p := (4, 189)) (by decide +kernel), zw_in (p := (1, 5)) (by decide +kernel), fun h => absurd h (by decide), fun _ => zw_in (p := (4, 188)) (by decide +kernel), fun _ => zw_in (p := (0, 32)) (by decide +kernel)⟩
def cal_X9_takeMultiple : List zCal := []
def b_X9_takeMultiple_221 : List zE := (221, .return_, []) :: []
def p_X9_takeMultiple_221 : List (List (Nat × Nat)) := [] :: []
def b_X9_takeMultiple_213 : List zE := (213, .lstore 11, []) :: (215, .iinc 13 1, [1]) :: (218, .goto (-77), [141, 1]) :: []
def p_X9_takeMultiple_213 : List (List (Nat × Nat)) := [] :: [] :: [] :: []
def b_X9_takeMultiple_212 : List zE := (212, .lconst 0, [0]) :: (213, .nop, [0]) :: []
def p_X9_takeMultiple_212 : List (List (Nat × Nat)) := [] :: [] :: []
def b_X9_takeMultiple_141 : List zE := (141, .iload 13, []) :: (143, .iload 5, []) :: (145, .if_icmp .ge 76, [221, 0]) :: (148, .iload 13, []) :: (150, .aload_n 0, []) :: (151, .getfield 9, [9, 0]) :: (154, .arraylength, []) :: (155, .if_icmp .ge 66, [221, 0]) :: (158, .lload 11, []) :: (160, .lconst 0, [0]) :: (161, .lcmp, []) :: (162, .ifCond .eq 59, [221, 0]) :: (165, .aload_n 0, []) :: (166, .getfield 9, [9, 0]) :: (169, .iload 13, []) :: (171, .iaload, []) :: (172, .i2l, []) :: (173, .ldc2_w 32, [4294967295]) :: (176, .land, []) :: (177, .lload 11, []) :: (179, .lsub, []) :: (180, .lstore 14, []) :: (182, .aload_n 0, []) :: (183, .getfield 9, [9, 0]) :: (186, .iload 13, []) :: (188, .lload 14, []) :: (190, .l2i, []) :: (191, .iastore, []) :: (192, .lload 14, []) :: (194, .lconst 0, [0]) :: (195, .lcmp, []) :: (196, .ifCond .ge 16, [212, 0]) :: (199, .lload 14, []) :: (201, .lneg, []) :: (202, .ldc2_w 32, [4294967295]) :: (205, .ladd, []) :: (206, .bipush 32, [32]) :: (208, .lushr, []) :: (209, .goto 4, [213, 0]) :: []
def p_X9_takeMultiple_141 : List (List (Nat × Nat)) := [] :: [] :: [] :: [] :: [] :: [(1, 96)] :: [] :: [] :: [] :: [] :: [] :: [] :: [] :: [(1, 96)] :: [] :: [] :: [] :: [(4, 122)] :: [] :: [] :: [] :: [] :: [] :: [(1, 96)] :: [] :: [] :: [] :: [] :: [] :: [] :: [] :: [] :: [] :: [] :: [(4, 122)] :: [] :: [] :: [] :: [] :: []
def b_X9_takeMultiple_127 : List zE := (127, .lload 7, []) :: (129, .lload 9, []) :: (131, .ladd, []) :: (132, .lstore 11, []) :: (134, .iload 4, []) :: (136, .iload 6, []) :: (138, .iadd, []) :: (139, .istore 13, []) :: (141, .nop, []) :: []
def p_X9_takeMultiple_127 : List (List (Nat × Nat)) := [] :: [] :: [] :: [] :: [] :: [] :: [] :: [] :: [] :: []
def b_X9_takeMultiple_112 : List zE := (112, .lstore 9, []) :: (114, .lload 7, []) :: (116, .bipush 32, [32]) :: (118, .lushr, []) :: (119, .lstore 7, []) :: (121, .iinc 11 1, [1]) :: (124, .goto (-90), [34, 1]) :: []
def p_X9_takeMultiple_112 : List (List (Nat × Nat)) := [] :: [] :: [] :: [] :: [] :: [] :: [] :: []
def b_X9_takeMultiple_111 : List zE := (111, .lconst 0, [0]) :: (112, .nop, [0]) :: []
def p_X9_takeMultiple_111 : List (List (Nat × Nat)) := [] :: [] :: []
def b_X9_takeMultiple_34 : List zE := (34, .iload 11, []) :: (36, .iload 6, []) :: (38, .if_icmp .ge 89, [127, 0]) :: (41, .lload 7, []) :: (43, .lload_n 2, []) :: (44, .aload_n 1, []) :: (45, .getfield 9, [9, 0]) :: (48, .iload 11, []) :: (50, .iaload, []) :: (51, .i2l, []) :: (52, .ldc2_w 32, [4294967295]) :: (55, .land, []) :: (56, .lmul, []) :: (57, .ladd, []) :: (58, .lstore 7, []) :: (60, .aload_n 0, []) :: (61, .getfield 9, [9, 0]) :: (64, .iload 4, []) :: (66, .iload 11, []) :: (68, .iadd, []) :: (69, .iaload, []) :: (70, .i2l, []) :: (71, .ldc2_w 32, [4294967295]) :: (74, .land, []) :: (75, .lload 7, []) :: (77, .ldc2_w 32, [4294967295]) :: (80, .land, []) :: (81, .lsub, []) :: (82, .lload 9, []) :: (84, .lsub, []) :: (85, .lstore 12, []) :: (87, .aload_n 0, []) :: (88, .getfield 9, [9, 0]) :: (91, .iload 4, []) :: (93, .iload 11, []) :: (95, .iadd, []) :: (96, .lload 12, []) :: (98, .l2i, []) :: (99, .iastore, []) :: (100, .lload 12, []) :: (102, .lconst 0, [0]) :: (103, .lcmp, []) :: (104, .ifCond .ge 7, [111, 0]) :: (107, .lconst 1, [1]) :: (108, .goto 4, [112, 0]) :: []
def p_X9_takeMultiple_34 : List (List (Nat × Nat)) := [] :: [] :: [] :: [] :: [] :: [] :: [(1, 96)] :: [] :: [] :: [] :: [(4, 122)] :: [] :: [] :: [] :: [] :: [] :: [(1, 96)] :: [] :: [] :: [] :: [] :: [] :: [(4, 122)] :: [] :: [] :: [(4, 122)] :: [] :: [] :: [] :: [] :: [] :: [] :: [(1, 96)] :: [] :: [] :: [] :: [] :: [] :: [] :: [] :: [] :: [] :: [] :: [] :: [] :: []
def b_X9_takeMultiple_0 : List zE := (0, .aload_n 1, []) :: (1, .getfield 13, [9, 1]) :: (4, .iload 5, []) :: (6, .iload 4, []) :: (8, .isub, []) :: (9, .invokestatic 62, [103]) :: (12, .aload_n 0, []) :: (13, .getfield 9, [9, 0]) :: (16, .arraylength, []) :: (17, .iload 4, []) :: (19, .isub, []) :: (20, .invokestatic 62, [103]) :: (23, .istore 6, []) :: (25, .lconst 0, [0]) :: (26, .lstore 7, []) :: (28, .lconst 0, [0]) :: (29, .lstore 9, []) :: (31, .iconst 0, [0]) :: (32, .istore 11, []) :: (34, .nop, []) :: []
def p_X9_takeMultiple_0 : List (List (Nat × Nat)) := [] :: [(1, 97)] :: [] :: [] :: [] :: [(4, 181), (4, 1), (1, 14), (4, 2)] :: [] :: [(1, 96)] :: [] :: [] :: [] :: [(4, 181), (4, 1), (1, 14), (4, 2)] :: [] :: [] :: [] :: [] :: [] :: [] :: [] :: [] :: []
def bl_X9_takeMultiple : List (Nat × List zE) := [(0, b_X9_takeMultiple_0), (34, b_X9_takeMultiple_34), (111, b_X9_takeMultiple_111), (112, b_X9_takeMultiple_112), (127, b_X9_takeMultiple_127), (141, b_X9_takeMultiple_141), (212, b_X9_takeMultiple_212), (213, b_X9_takeMultiple_213), (221, b_X9_takeMultiple_221)]
def pl_X9_takeMultiple : List (List (List (Nat × Nat))) := [p_X9_takeMultiple_0, p_X9_takeMultiple_34, p_X9_takeMultiple_111, p_X9_takeMultiple_112, p_X9_takeMultiple_127, p_X9_takeMultiple_141, p_X9_takeMultiple_212, p_X9_takeMultiple_213, p_X9_takeMultiple_221]
theorem k_X9_takeMultiple_0 : zlk 0 bl_X9_takeMultiple = b_X9_takeMultiple_0 := rfl
theorem k_X9_takeMultiple_34 : zlk 34 bl_X9_takeMultiple = b_X9_takeMultiple_34 := rfl
theorem k_X9_takeMultiple_111 : zlk 111 bl_X9_takeMultiple = b_X9_takeMultiple_111 := rfl
theorem k_X9_takeMultiple_112 : zlk 112 bl_X9_takeMultiple = b_X9_takeMultiple_112 := rfl
theorem k_X9_takeMultiple_127 : zlk 127 bl_X9_takeMultiple = b_X9_takeMultiple_127 := rfl
theorem k_X9_takeMultiple_141 : zlk 141 bl_X9_takeMultiple = b_X9_takeMultiple_141 := rfl
theorem k_X9_takeMultiple_212 : zlk 212 bl_X9_takeMultiple = b_X9_takeMultiple_212 := rfl
theorem k_X9_takeMultiple_213 : zlk 213 bl_X9_takeMultiple = b_X9_takeMultiple_213 := rfl
theorem k_X9_takeMultiple_221 : zlk 221 bl_X9_takeMultiple = b_X9_takeMultiple_221 := rfl
set_option maxRecDepth 100000 in
theorem ck_X9_takeMultiple : zall q_X9_takeMultiple.2.2.2.2.1 q_X9_takeMultiple.2.1 9 false q_X9_takeMultiple.2.2.1 cal_X9_takeMultiple q_X9_takeMultiple.2.2.2.1 bl_X9_takeMultiple pl_X9_takeMultiple = true := by decide +kernel
theorem nm_X9_takeMultiple : plainName q_X9_takeMultiple.1.cls = true ∧ zRX 9 = q_X9_takeMultiple.1.cls ∧ (false = true → q_X9_takeMultiple.1.name = "<init>") := ⟨by decide +kernel, rfl, fun h => by first | rfl | cases h⟩
set_option maxRecDepth 100000 in
theorem wd_X9_becomeQuotient : zwd q_X9_becomeQuotient := ⟨zw_in (p := (4, 185)) (by decide +kernel), zw_in (p := (1, 5)) (by decide +kernel), fun h => absurd h (by decide), fun _ => zw_in (p := (4, 183)) (by decide +kernel), fun _ => zw_in (p := (4, 184)) (by decide +kernel)⟩
def cal_X9_becomeQuotient : List zCal := [q_X9_zero, q_X9_takeMultiple, q_X9_trim]
def b_X9_becomeQuotient_93 : List zE := (93, .aload_n 0, []) :: (94, .iload 4, []) :: (96, .putfield 13, [9, 1]) :: (99, .aload_n 0, []) :: (100, .aload_n 1, []) :: (101, .getfield 17, [9, 2]) :: (104, .aload_n 2, []) :: (105, .getfield 17, [9, 2]) :: (108, .imul, []) :: (109, .putfield 17, [9, 2]) :: (112, .aload_n 0, []) :: (113, .invokevirtual 23, [2, 0, 9]) :: (116, .return_, []) :: []
def p_X9_becomeQuotient_93 : List (List (Nat × Nat)) := [] :: [] :: [(1, 97)] :: [] :: [] :: [(1, 99)] :: [] :: [(1, 99)] :: [] :: [(1, 99)] :: [] :: [(4, 114)] :: [] :: []
def b_X9_becomeQuotient_44 : List zE := (44, .iload 5, []) :: (46, .iload 4, []) :: (48, .if_icmp .ge 45, [93, 0]) :: (51, .aload_n 1, []) :: (52, .getfield 9, [9, 0]) :: (55, .iload 5, []) :: (57, .iaload, []) :: (58, .iload_n 3, []) :: (59, .imul, []) :: (60, .istore 6, []) :: (62, .aload_n 0, []) :: (63, .getfield 9, [9, 0]) :: (66, .iload 5, []) :: (68, .iload 6, []) :: (70, .iastore, []) :: (71, .aload_n 1, []) :: (72, .aload_n 2, []) :: (73, .iload 6, []) :: (75, .i2l, []) :: (76, .ldc2_w 32, [4294967295]) :: (79, .land, []) :: (80, .iload 5, []) :: (82, .iload 4, []) :: (84, .invokevirtual 65, [1, 4, 9]) :: (87, .iinc 5 1, [1]) :: (90, .goto (-46), [44, 1]) :: []
def p_X9_becomeQuotient_44 : List (List (Nat × Nat)) := [] :: [] :: [] :: [] :: [(1, 96)] :: [] :: [] :: [] :: [] :: [] :: [] :: [(1, 96)] :: [] :: [] :: [] :: [] :: [] :: [] :: [] :: [(4, 122)] :: [] :: [] :: [] :: [(4, 186)] :: [] :: [] :: []
def b_X9_becomeQuotient_41 : List zE := (41, .iconst 0, [0]) :: (42, .istore 5, []) :: (44, .nop, []) :: []
def p_X9_becomeQuotient_41 : List (List (Nat × Nat)) := [] :: [] :: [] :: []
def b_X9_becomeQuotient_40 : List zE := (40, .return_, []) :: []
def p_X9_becomeQuotient_40 : List (List (Nat × Nat)) := [] :: []
def b_X9_becomeQuotient_0 : List zE := (0, .aload_n 0, []) :: (1, .invokevirtual 20, [0, 0, 9]) :: (4, .aload_n 1, []) :: (5, .getfield 13, [9, 1]) :: (8, .aload_n 2, []) :: (9, .getfield 13, [9, 1]) :: (12, .isub, []) :: (13, .iconst 1, [1]) :: (14, .iadd, []) :: (15, .istore 4, []) :: (17, .aload_n 2, []) :: (18, .getfield 13, [9, 1]) :: (21, .ifCond .eq 19, [40, 0]) :: (24, .iload 4, []) :: (26, .iconst 1, [1]) :: (27, .if_icmp .lt 13, [40, 0]) :: (30, .iload 4, []) :: (32, .aload_n 0, []) :: (33, .getfield 9, [9, 0]) :: (36, .arraylength, []) :: (37, .if_icmp .le 4, [41, 0]) :: (40, .nop, [0]) :: []
def p_X9_becomeQuotient_0 : List (List (Nat × Nat)) := [] :: [(4, 113)] :: [] :: [(1, 97)] :: [] :: [(1, 97)] :: [] :: [] :: [] :: [] :: [] :: [(1, 97)] :: [] :: [] :: [] :: [] :: [] :: [] :: [(1, 96)] :: [] :: [] :: [] :: []
def bl_X9_becomeQuotient : List (Nat × List zE) := [(0, b_X9_becomeQuotient_0), (40, b_X9_becomeQuotient_40), (41, b_X9_becomeQuotient_41), (44, b_X9_becomeQuotient_44), (93, b_X9_becomeQuotient_93)]
def pl_X9_becomeQuotient : List (List (List (Nat × Nat))) := [p_X9_becomeQuotient_0, p_X9_becomeQuotient_40, p_X9_becomeQuotient_41, p_X9_becomeQuotient_44, p_X9_becomeQuotient_93]
theorem k_X9_becomeQuotient_0 : zlk 0 bl_X9_becomeQuotient = b_X9_becomeQuotient_0 := rfl
theorem k_X9_becomeQuotient_40 : zlk 40 bl_X9_becomeQuotient = b_X9_becomeQuotient_40 := rfl
theorem k_X9_becomeQuotient_41 : zlk 41 bl_X9_becomeQuotient = b_X9_becomeQuotient_41 := rfl
theorem k_X9_becomeQuotient_44 : zlk 44 bl_X9_becomeQuotient = b_X9_becomeQuotient_44 := rfl
theorem k_X9_becomeQuotient_93 : zlk 93 bl_X9_becomeQuotient = b_X9_becomeQuotient_93 := rfl
set_option maxRecDepth 100000 in
theorem ck_X9_becomeQuotient : zall q_X9_becomeQuotient.2.2.2.2.1 q_X9_becomeQuotient.2.1 9 false q_X9_becomeQuotient.2.2.1 cal_X9_becomeQuotient q_X9_becomeQuotient.2.2.2.1 bl_X9_becomeQuotient pl_X9_becomeQuotient = true := by decide +kernel
theorem nm_X9_becomeQuotient : plainName q_X9_becomeQuotient.1.cls = true ∧ zRX 9 = q_X9_becomeQuotient.1.cls ∧ (false = true → q_X9_becomeQuotient.1.name = "<init>") := ⟨by decide +kernel, rfl, fun h => by first | rfl | cases h⟩
set_option maxRecDepth 100000 in
theorem wd_X1_workRow : zwd q_X1_workRow := ⟨zw_in (p := (4, 156)) (by decide +kernel), zw_in (p := (1, 4)) (by decide +kernel), fun h => absurd h (by decide), fun _ => zw_in (p := (4, 155)) (by decide +kernel), fun _ => zw_in (p := (0, 31)) (by decide +kernel)⟩
def cal_X1_workRow : List zCal := [q_X1_at, q_X9_becomeProduct, q_X9_subtract, q_X9_shiftDown, q_X9_becomeQuotient, q_X9_zero]
def b_X1_workRow_150 : List zE := (150, .aload 4, []) :: (152, .invokevirtual 92, [5, 0, 9]) :: (155, .return_, []) :: []
def p_X1_workRow_150 : List (List (Nat × Nat)) := [] :: [(4, 105)] :: [] :: []
def b_X1_workRow_144 : List zE := (144, .iinc 5 1, [1]) :: (147, .goto (-126), [21, 1]) :: []
def p_X1_workRow_144 : List (List (Nat × Nat)) := [] :: [] :: []
def b_X1_workRow_84 : List zE := (84, .aload_n 0, []) :: (85, .getfield 20, [1, 1]) :: (88, .aload_n 3, []) :: (89, .aload 6, []) :: (91, .invokevirtual 144, [1, 2, 9]) :: (94, .aload_n 0, []) :: (95, .getfield 24, [1, 2]) :: (98, .aload 4, []) :: (100, .aload 7, []) :: (102, .invokevirtual 144, [1, 2, 9]) :: (105, .aload_n 0, []) :: (106, .getfield 20, [1, 1]) :: (109, .aload_n 0, []) :: (110, .getfield 24, [1, 2]) :: (113, .invokevirtual 148, [2, 1, 9]) :: (116, .aload_n 0, []) :: (117, .getfield 20, [1, 1]) :: (120, .aload_n 0, []) :: (121, .getfield 131, [1, 13]) :: (124, .invokevirtual 134, [3, 1, 9]) :: (127, .aload 6, []) :: (129, .aload_n 0, []) :: (130, .getfield 20, [1, 1]) :: (133, .aload_n 0, []) :: (134, .getfield 30, [1, 4]) :: (137, .aload_n 0, []) :: (138, .getfield 141, [1, 14]) :: (141, .invokevirtual 151, [4, 3, 9]) :: (144, .nop, [0]) :: []
def p_X1_workRow_84 : List (List (Nat × Nat)) := [] :: [(1, 110)] :: [] :: [] :: [(4, 157)] :: [] :: [(1, 111)] :: [] :: [] :: [(4, 157)] :: [] :: [(1, 110)] :: [] :: [(1, 111)] :: [(4, 161)] :: [] :: [(1, 110)] :: [] :: [(1, 122)] :: [(4, 136)] :: [] :: [] :: [(1, 110)] :: [] :: [(1, 113)] :: [] :: [(1, 123)] :: [(4, 182)] :: [] :: []
def b_X1_workRow_21 : List zE := (21, .iload 5, []) :: (23, .aload_n 0, []) :: (24, .getfield 52, [1, 9]) :: (27, .if_icmp .ge 123, [150, 0]) :: (30, .aload_n 0, []) :: (31, .iload_n 1, []) :: (32, .iload 5, []) :: (34, .invokevirtual 66, [0, 2, 1]) :: (37, .astore 6, []) :: (39, .aload_n 0, []) :: (40, .aload_n 0, []) :: (41, .getfield 99, [1, 11]) :: (44, .iload 5, []) :: (46, .invokevirtual 66, [0, 2, 1]) :: (49, .astore 7, []) :: (51, .iload 5, []) :: (53, .iload_n 2, []) :: (54, .if_icmp .eq 90, [144, 0]) :: (57, .aload 6, []) :: (59, .getfield 124, [9, 2]) :: (62, .ifCond .ne 22, [84, 0]) :: (65, .aload 4, []) :: (67, .getfield 124, [9, 2]) :: (70, .ifCond .eq 74, [144, 0]) :: (73, .aload 7, []) :: (75, .getfield 124, [9, 2]) :: (78, .ifCond .ne 6, [84, 0]) :: (81, .goto 63, [144, 0]) :: []
def p_X1_workRow_21 : List (List (Nat × Nat)) := [] :: [] :: [(1, 118)] :: [] :: [] :: [] :: [] :: [(4, 97)] :: [] :: [] :: [] :: [(1, 120)] :: [] :: [(4, 97)] :: [] :: [] :: [] :: [] :: [] :: [(1, 100)] :: [] :: [] :: [(1, 100)] :: [] :: [] :: [(1, 100)] :: [] :: [] :: []
def b_X1_workRow_0 : List zE := (0, .aload_n 0, []) :: (1, .aload_n 0, []) :: (2, .getfield 99, [1, 11]) :: (5, .iload_n 2, []) :: (6, .invokevirtual 66, [0, 2, 1]) :: (9, .astore_n 3, []) :: (10, .aload_n 0, []) :: (11, .iload_n 1, []) :: (12, .iload_n 2, []) :: (13, .invokevirtual 66, [0, 2, 1]) :: (16, .astore 4, []) :: (18, .iconst 0, [0]) :: (19, .istore 5, []) :: (21, .nop, []) :: []
def p_X1_workRow_0 : List (List (Nat × Nat)) := [] :: [] :: [(1, 120)] :: [] :: [(4, 97)] :: [] :: [] :: [] :: [] :: [(4, 97)] :: [] :: [] :: [] :: [] :: []
def bl_X1_workRow : List (Nat × List zE) := [(0, b_X1_workRow_0), (21, b_X1_workRow_21), (84, b_X1_workRow_84), (144, b_X1_workRow_144), (150, b_X1_workRow_150)]
def pl_X1_workRow : List (List (List (Nat × Nat))) := [p_X1_workRow_0, p_X1_workRow_21, p_X1_workRow_84, p_X1_workRow_144, p_X1_workRow_150]
theorem k_X1_workRow_0 : zlk 0 bl_X1_workRow = b_X1_workRow_0 := rfl
theorem k_X1_workRow_21 : zlk 21 bl_X1_workRow = b_X1_workRow_21 := rfl
theorem k_X1_workRow_84 : zlk 84 bl_X1_workRow = b_X1_workRow_84 := rfl
theorem k_X1_workRow_144 : zlk 144 bl_X1_workRow = b_X1_workRow_144 := rfl
theorem k_X1_workRow_150 : zlk 150 bl_X1_workRow = b_X1_workRow_150 := rfl
set_option maxRecDepth 100000 in
theorem ck_X1_workRow : zall q_X1_workRow.2.2.2.2.1 q_X1_workRow.2.1 1 false q_X1_workRow.2.2.1 cal_X1_workRow q_X1_workRow.2.2.2.1 bl_X1_workRow pl_X1_workRow = true := by decide +kernel
theorem nm_X1_workRow : plainName q_X1_workRow.1.cls = true ∧ zRX 1 = q_X1_workRow.1.cls ∧ (false = true → q_X1_workRow.1.name = "<init>") := ⟨by decide +kernel, rfl, fun h => by first | rfl | cases h⟩
set_option maxRecDepth 100000 in
theorem wd_X1_eliminate : zwd q_X1_eliminate := ⟨zw_in (p := (4, 126)) (by decide +kernel), zw_in (p := (1, 4)) (by decide +kernel), fun h => absurd h (by decide), fun _ => zw_in (p := (4, 125)) (by decide +kernel), fun _ => zw_in (p := (0, 27)) (by decide +kernel)⟩
def cal_X1_eliminate : List zCal := [q_X9_become, q_X1_prepareDivisor, q_X1_rowWithPivot, q_X1_exchangeRows, q_X1_workRow, q_X1_at, q_X9_copy]
def b_X1_eliminate_164 : List zE := (164, .return_, []) :: []
def p_X1_eliminate_164 : List (List (Nat × Nat)) := [] :: []
def b_X1_eliminate_158 : List zE := (158, .iinc 2 1, [1]) :: (161, .goto (-135), [26, 1]) :: []
def p_X1_eliminate_158 : List (List (Nat × Nat)) := [] :: [] :: []
def b_X1_eliminate_128 : List zE := (128, .aload_n 0, []) :: (129, .getfield 30, [1, 4]) :: (132, .aload_n 0, []) :: (133, .aload_n 0, []) :: (134, .getfield 99, [1, 11]) :: (137, .iload_n 2, []) :: (138, .invokevirtual 66, [5, 2, 1]) :: (141, .invokevirtual 120, [6, 1, 9]) :: (144, .aload_n 0, []) :: (145, .invokevirtual 106, [1, 0, 1]) :: (148, .aload_n 0, []) :: (149, .dup, []) :: (150, .getfield 99, [1, 11]) :: (153, .iconst 1, [1]) :: (154, .iadd, []) :: (155, .putfield 99, [1, 11]) :: (158, .nop, [0]) :: []
def p_X1_eliminate_128 : List (List (Nat × Nat)) := [] :: [(1, 113)] :: [] :: [] :: [(1, 120)] :: [] :: [(4, 97)] :: [(4, 190)] :: [] :: [(4, 127)] :: [] :: [] :: [(1, 120)] :: [] :: [] :: [(1, 120)] :: [] :: []
def b_X1_eliminate_122 : List zE := (122, .iinc 4 1, [1]) :: (125, .goto (-28), [97, 1]) :: []
def p_X1_eliminate_122 : List (List (Nat × Nat)) := [] :: [] :: []
def b_X1_eliminate_97 : List zE := (97, .iload 4, []) :: (99, .aload_n 0, []) :: (100, .getfield 47, [1, 7]) :: (103, .if_icmp .ge 25, [128, 0]) :: (106, .iload 4, []) :: (108, .aload_n 0, []) :: (109, .getfield 99, [1, 11]) :: (112, .if_icmp .eq 10, [122, 0]) :: (115, .aload_n 0, []) :: (116, .iload 4, []) :: (118, .iload_n 2, []) :: (119, .invokevirtual 117, [4, 2, 1]) :: (122, .nop, [0]) :: []
def p_X1_eliminate_97 : List (List (Nat × Nat)) := [] :: [] :: [(1, 116)] :: [] :: [] :: [] :: [(1, 120)] :: [] :: [] :: [] :: [] :: [(4, 153)] :: [] :: []
def b_X1_eliminate_95 : List zE := (95, .istore 4, []) :: (97, .nop, []) :: []
def p_X1_eliminate_95 : List (List (Nat × Nat)) := [] :: [] :: []
def b_X1_eliminate_89 : List zE := (89, .aload_n 0, []) :: (90, .getfield 99, [1, 11]) :: (93, .iconst 1, [1]) :: (94, .iadd, []) :: (95, .nop, [0]) :: []
def p_X1_eliminate_89 : List (List (Nat × Nat)) := [] :: [(1, 120)] :: [] :: [] :: [] :: []
def b_X1_eliminate_62 : List zE := (62, .aload_n 0, []) :: (63, .aload_n 0, []) :: (64, .getfield 99, [1, 11]) :: (67, .iload_n 3, []) :: (68, .invokevirtual 113, [3, 2, 1]) :: (71, .aload_n 0, []) :: (72, .getfield 33, [1, 5]) :: (75, .aload_n 0, []) :: (76, .getfield 99, [1, 11]) :: (79, .iload_n 2, []) :: (80, .iastore, []) :: (81, .iload_n 1, []) :: (82, .ifCond .eq 7, [89, 0]) :: (85, .iconst 0, [0]) :: (86, .goto 9, [95, 0]) :: []
def p_X1_eliminate_62 : List (List (Nat × Nat)) := [] :: [] :: [(1, 120)] :: [] :: [(4, 149)] :: [] :: [(1, 114)] :: [] :: [(1, 120)] :: [] :: [] :: [] :: [] :: [] :: [] :: []
def b_X1_eliminate_54 : List zE := (54, .bastore, []) :: (55, .iload_n 3, []) :: (56, .ifCond .ge 6, [62, 0]) :: (59, .goto 99, [158, 0]) :: []
def p_X1_eliminate_54 : List (List (Nat × Nat)) := [] :: [] :: [] :: [] :: []
def b_X1_eliminate_53 : List zE := (53, .iconst 0, [0]) :: (54, .nop, [0]) :: []
def p_X1_eliminate_53 : List (List (Nat × Nat)) := [] :: [] :: []
def b_X1_eliminate_26 : List zE := (26, .iload_n 2, []) :: (27, .aload_n 0, []) :: (28, .getfield 51, [1, 8]) :: (31, .if_icmp .ge 133, [164, 0]) :: (34, .aload_n 0, []) :: (35, .iload_n 2, []) :: (36, .invokevirtual 109, [2, 1, 1]) :: (39, .istore_n 3, []) :: (40, .aload_n 0, []) :: (41, .getfield 37, [1, 6]) :: (44, .iload_n 2, []) :: (45, .iload_n 3, []) :: (46, .ifCond .ge 7, [53, 0]) :: (49, .iconst 1, [1]) :: (50, .goto 4, [54, 0]) :: []
def p_X1_eliminate_26 : List (List (Nat × Nat)) := [] :: [] :: [(1, 117)] :: [] :: [] :: [] :: [(4, 145)] :: [] :: [] :: [(1, 115)] :: [] :: [] :: [] :: [] :: [] :: []
def b_X1_eliminate_0 : List zE := (0, .aload_n 0, []) :: (1, .iconst 0, [0]) :: (2, .putfield 99, [1, 11]) :: (5, .aload_n 0, []) :: (6, .iconst 0, [0]) :: (7, .putfield 102, [1, 12]) :: (10, .aload_n 0, []) :: (11, .getfield 30, [1, 4]) :: (14, .lconst 1, [1]) :: (15, .iconst 0, [0]) :: (16, .iconst 1, [1]) :: (17, .invokevirtual 95, [0, 3, 9]) :: (20, .aload_n 0, []) :: (21, .invokevirtual 106, [1, 0, 1]) :: (24, .iconst 0, [0]) :: (25, .istore_n 2, []) :: (26, .nop, []) :: []
def p_X1_eliminate_0 : List (List (Nat × Nat)) := [] :: [] :: [(1, 120)] :: [] :: [] :: [(1, 121)] :: [] :: [(1, 113)] :: [] :: [] :: [] :: [(4, 109)] :: [] :: [(4, 127)] :: [] :: [] :: [] :: []
def bl_X1_eliminate : List (Nat × List zE) := [(0, b_X1_eliminate_0), (26, b_X1_eliminate_26), (53, b_X1_eliminate_53), (54, b_X1_eliminate_54), (62, b_X1_eliminate_62), (89, b_X1_eliminate_89), (95, b_X1_eliminate_95), (97, b_X1_eliminate_97), (122, b_X1_eliminate_122), (128, b_X1_eliminate_128), (158, b_X1_eliminate_158), (164, b_X1_eliminate_164)]
def pl_X1_eliminate : List (List (List (Nat × Nat))) := [p_X1_eliminate_0, p_X1_eliminate_26, p_X1_eliminate_53, p_X1_eliminate_54, p_X1_eliminate_62, p_X1_eliminate_89, p_X1_eliminate_95, p_X1_eliminate_97, p_X1_eliminate_122, p_X1_eliminate_128, p_X1_eliminate_158, p_X1_eliminate_164]
theorem k_X1_eliminate_0 : zlk 0 bl_X1_eliminate = b_X1_eliminate_0 := rfl
theorem k_X1_eliminate_26 : zlk 26 bl_X1_eliminate = b_X1_eliminate_26 := rfl
theorem k_X1_eliminate_53 : zlk 53 bl_X1_eliminate = b_X1_eliminate_53 := rfl
theorem k_X1_eliminate_54 : zlk 54 bl_X1_eliminate = b_X1_eliminate_54 := rfl
theorem k_X1_eliminate_62 : zlk 62 bl_X1_eliminate = b_X1_eliminate_62 := rfl
theorem k_X1_eliminate_89 : zlk 89 bl_X1_eliminate = b_X1_eliminate_89 := rfl
theorem k_X1_eliminate_95 : zlk 95 bl_X1_eliminate = b_X1_eliminate_95 := rfl
theorem k_X1_eliminate_97 : zlk 97 bl_X1_eliminate = b_X1_eliminate_97 := rfl
theorem k_X1_eliminate_122 : zlk 122 bl_X1_eliminate = b_X1_eliminate_122 := rfl
theorem k_X1_eliminate_128 : zlk 128 bl_X1_eliminate = b_X1_eliminate_128 := rfl
theorem k_X1_eliminate_158 : zlk 158 bl_X1_eliminate = b_X1_eliminate_158 := rfl
theorem k_X1_eliminate_164 : zlk 164 bl_X1_eliminate = b_X1_eliminate_164 := rfl
set_option maxRecDepth 100000 in
theorem ck_X1_eliminate : zall q_X1_eliminate.2.2.2.2.1 q_X1_eliminate.2.1 1 false q_X1_eliminate.2.2.1 cal_X1_eliminate q_X1_eliminate.2.2.2.1 bl_X1_eliminate pl_X1_eliminate = true := by decide +kernel
theorem nm_X1_eliminate : plainName q_X1_eliminate.1.cls = true ∧ zRX 1 = q_X1_eliminate.1.cls ∧ (false = true → q_X1_eliminate.1.name = "<init>") := ⟨by decide +kernel, rfl, fun h => by first | rfl | cases h⟩
set_option maxRecDepth 100000 in
theorem wd_X1_rankOf : zwd q_X1_rankOf := ⟨zw_in (p := (4, 219)) (by decide +kernel), zw_in (p := (1, 4)) (by decide +kernel), fun h => absurd h (by decide), fun _ => zw_in (p := (4, 217)) (by decide +kernel), fun _ => zw_in (p := (4, 218)) (by decide +kernel)⟩
def cal_X1_rankOf : List zCal := [q_X1_prepare, q_X1_eliminate]
def b_X1_rankOf_0 : List zE := (0, .aload_n 0, []) :: (1, .aload_n 1, []) :: (2, .aconst_null, []) :: (3, .invokevirtual 155, [0, 2, 1]) :: (6, .aload_n 0, []) :: (7, .iconst 0, [0]) :: (8, .invokevirtual 159, [1, 1, 1]) :: (11, .aload_n 0, []) :: (12, .getfield 99, [1, 11]) :: (15, .ireturn, []) :: []
def p_X1_rankOf_0 : List (List (Nat × Nat)) := [] :: [] :: [] :: [(4, 84)] :: [] :: [] :: [(4, 123)] :: [] :: [(1, 120)] :: [] :: []
def bl_X1_rankOf : List (Nat × List zE) := [(0, b_X1_rankOf_0)]
def pl_X1_rankOf : List (List (List (Nat × Nat))) := [p_X1_rankOf_0]
theorem k_X1_rankOf_0 : zlk 0 bl_X1_rankOf = b_X1_rankOf_0 := rfl
set_option maxRecDepth 100000 in
theorem ck_X1_rankOf : zall q_X1_rankOf.2.2.2.2.1 q_X1_rankOf.2.1 1 false q_X1_rankOf.2.2.1 cal_X1_rankOf q_X1_rankOf.2.2.2.1 bl_X1_rankOf pl_X1_rankOf = true := by decide +kernel
theorem nm_X1_rankOf : plainName q_X1_rankOf.1.cls = true ∧ zRX 1 = q_X1_rankOf.1.cls ∧ (false = true → q_X1_rankOf.1.name = "<init>") := ⟨by decide +kernel, rfl, fun h => by first | rfl | cases h⟩
set_option maxRecDepth 100000 in
theorem wd_X1_solutions : zwd q_X1_solutions := ⟨zw_in (p := (4, 83)) (by decide +kernel), zw_in (p := (1, 4)) (by decide +kernel), fun h => absurd h (by decide), fun _ => zw_in (p := (4, 81)) (by decide +kernel), fun _ => zw_in (p := (4, 82)) (by decide +kernel)⟩
def cal_X1_solutions : List zCal := [q_X1_prepare, q_X1_eliminate, q_X1_at]
def b_X1_solutions_63 : List zE := (63, .ireturn, []) :: []
def p_X1_solutions_63 : List (List (Nat × Nat)) := [] :: []
def b_X1_solutions_62 : List zE := (62, .iconst 2, [2]) :: (63, .nop, [0]) :: []
def p_X1_solutions_62 : List (List (Nat × Nat)) := [] :: [] :: []
def b_X1_solutions_47 : List zE := (47, .aload_n 0, []) :: (48, .getfield 99, [1, 11]) :: (51, .aload_n 0, []) :: (52, .getfield 51, [1, 8]) :: (55, .if_icmp .ge 7, [62, 0]) :: (58, .iconst 1, [1]) :: (59, .goto 4, [63, 0]) :: []
def p_X1_solutions_47 : List (List (Nat × Nat)) := [] :: [(1, 120)] :: [] :: [(1, 117)] :: [] :: [] :: [] :: []
def b_X1_solutions_41 : List zE := (41, .iinc 3 1, [1]) :: (44, .goto (-28), [16, 1]) :: []
def p_X1_solutions_41 : List (List (Nat × Nat)) := [] :: [] :: []
def b_X1_solutions_16 : List zE := (16, .iload_n 3, []) :: (17, .aload_n 0, []) :: (18, .getfield 47, [1, 7]) :: (21, .if_icmp .ge 26, [47, 0]) :: (24, .aload_n 0, []) :: (25, .iload_n 3, []) :: (26, .aload_n 0, []) :: (27, .getfield 51, [1, 8]) :: (30, .invokevirtual 66, [2, 2, 1]) :: (33, .getfield 124, [9, 2]) :: (36, .ifCond .eq 5, [41, 0]) :: (39, .iconst 0, [0]) :: (40, .ireturn, []) :: []
def p_X1_solutions_16 : List (List (Nat × Nat)) := [] :: [] :: [(1, 116)] :: [] :: [] :: [] :: [] :: [(1, 117)] :: [(4, 97)] :: [(1, 100)] :: [] :: [] :: [] :: []
def b_X1_solutions_0 : List zE := (0, .aload_n 0, []) :: (1, .aload_n 1, []) :: (2, .aload_n 2, []) :: (3, .invokevirtual 155, [0, 2, 1]) :: (6, .aload_n 0, []) :: (7, .iconst 1, [1]) :: (8, .invokevirtual 159, [1, 1, 1]) :: (11, .aload_n 0, []) :: (12, .getfield 99, [1, 11]) :: (15, .istore_n 3, []) :: (16, .nop, []) :: []
def p_X1_solutions_0 : List (List (Nat × Nat)) := [] :: [] :: [] :: [(4, 84)] :: [] :: [] :: [(4, 123)] :: [] :: [(1, 120)] :: [] :: [] :: []
def bl_X1_solutions : List (Nat × List zE) := [(0, b_X1_solutions_0), (16, b_X1_solutions_16), (41, b_X1_solutions_41), (47, b_X1_solutions_47), (62, b_X1_solutions_62), (63, b_X1_solutions_63)]
def pl_X1_solutions : List (List (List (Nat × Nat))) := [p_X1_solutions_0, p_X1_solutions_16, p_X1_solutions_41, p_X1_solutions_47, p_X1_solutions_62, p_X1_solutions_63]
theorem k_X1_solutions_0 : zlk 0 bl_X1_solutions = b_X1_solutions_0 := rfl
theorem k_X1_solutions_16 : zlk 16 bl_X1_solutions = b_X1_solutions_16 := rfl
theorem k_X1_solutions_41 : zlk 41 bl_X1_solutions = b_X1_solutions_41 := rfl
theorem k_X1_solutions_47 : zlk 47 bl_X1_solutions = b_X1_solutions_47 := rfl
theorem k_X1_solutions_62 : zlk 62 bl_X1_solutions = b_X1_solutions_62 := rfl
theorem k_X1_solutions_63 : zlk 63 bl_X1_solutions = b_X1_solutions_63 := rfl
set_option maxRecDepth 100000 in
theorem ck_X1_solutions : zall q_X1_solutions.2.2.2.2.1 q_X1_solutions.2.1 1 false q_X1_solutions.2.2.1 cal_X1_solutions q_X1_solutions.2.2.2.1 bl_X1_solutions pl_X1_solutions = true := by decide +kernel
theorem nm_X1_solutions : plainName q_X1_solutions.1.cls = true ∧ zRX 1 = q_X1_solutions.1.cls ∧ (false = true → q_X1_solutions.1.name = "<init>") := ⟨by decide +kernel, rfl, fun h => by first | rfl | cases h⟩
set_option maxRecDepth 100000 in
theorem wd_X9_countBits : zwd q_X9_countBits := ⟨zw_in (p := (4, 206)) (by decide +kernel), zw_in (p := (1, 5)) (by decide +kernel), fun h => absurd h (by decide), fun _ => zw_in (p := (4, 204)) (by decide +kernel), fun _ => zw_in (p := (4, 205)) (by decide +kernel)⟩
def cal_X9_countBits : List zCal := [q_X0_bitLength]
def b_X9_countBits_40 : List zE := (40, .ireturn, []) :: []
def p_X9_countBits_40 : List (List (Nat × Nat)) := [] :: []
def b_X9_countBits_11 : List zE := (11, .bipush 32, [32]) :: (13, .aload_n 0, []) :: (14, .getfield 13, [9, 1]) :: (17, .iconst 1, [1]) :: (18, .isub, []) :: (19, .imul, []) :: (20, .aload_n 0, []) :: (21, .getfield 9, [9, 0]) :: (24, .aload_n 0, []) :: (25, .getfield 13, [9, 1]) :: (28, .iconst 1, [1]) :: (29, .isub, []) :: (30, .iaload, []) :: (31, .i2l, []) :: (32, .ldc2_w 32, [4294967295]) :: (35, .land, []) :: (36, .invokestatic 34, [0, 1]) :: (39, .iadd, []) :: (40, .nop, [0]) :: []
def p_X9_countBits_11 : List (List (Nat × Nat)) := [] :: [] :: [(1, 97)] :: [] :: [] :: [] :: [] :: [(1, 96)] :: [] :: [(1, 97)] :: [] :: [] :: [] :: [] :: [(4, 122)] :: [] :: [(4, 207)] :: [] :: [] :: []
def b_X9_countBits_0 : List zE := (0, .aload_n 0, []) :: (1, .getfield 13, [9, 1]) :: (4, .ifCond .ne 7, [11, 0]) :: (7, .iconst 0, [0]) :: (8, .goto 32, [40, 0]) :: []
def p_X9_countBits_0 : List (List (Nat × Nat)) := [] :: [(1, 97)] :: [] :: [] :: [] :: []
def bl_X9_countBits : List (Nat × List zE) := [(0, b_X9_countBits_0), (11, b_X9_countBits_11), (40, b_X9_countBits_40)]
def pl_X9_countBits : List (List (List (Nat × Nat))) := [p_X9_countBits_0, p_X9_countBits_11, p_X9_countBits_40]
theorem k_X9_countBits_0 : zlk 0 bl_X9_countBits = b_X9_countBits_0 := rfl
theorem k_X9_countBits_11 : zlk 11 bl_X9_countBits = b_X9_countBits_11 := rfl
theorem k_X9_countBits_40 : zlk 40 bl_X9_countBits = b_X9_countBits_40 := rfl
set_option maxRecDepth 100000 in
theorem ck_X9_countBits : zall q_X9_countBits.2.2.2.2.1 q_X9_countBits.2.1 9 false q_X9_countBits.2.2.1 cal_X9_countBits q_X9_countBits.2.2.2.1 bl_X9_countBits pl_X9_countBits = true := by decide +kernel
theorem nm_X9_countBits : plainName q_X9_countBits.1.cls = true ∧ zRX 9 = q_X9_countBits.1.cls ∧ (false = true → q_X9_countBits.1.name = "<init>") := ⟨by decide +kernel, rfl, fun h => by first | rfl | cases h⟩
set_option maxRecDepth 100000 in
theorem wd_X1_ratio : zwd q_X1_ratio := ⟨zw_in (p := (4, 202)) (by decide +kernel), zw_in (p := (1, 4)) (by decide +kernel), fun h => absurd h (by decide), fun _ => zw_in (p := (4, 201)) (by decide +kernel), fun _ => zw_in (p := (0, 34)) (by decide +kernel)⟩
def cal_X1_ratio : List zCal := [q_X9_countBits, q_X9_shiftUp, q_X9_compareSize, q_X9_lessSize, q_X0_rounded]
def b_X1_ratio_170 : List zE := (170, .iload 4, []) :: (172, .iload 5, []) :: (174, .isub, []) :: (175, .bipush 57, [57]) :: (177, .isub, []) :: (178, .iload_n 1, []) :: (179, .iadd, []) :: (180, .iload_n 2, []) :: (181, .invokestatic 192, [4, 5]) :: (184, .lreturn, []) :: []
def p_X1_ratio_170 : List (List (Nat × Nat)) := [] :: [] :: [] :: [] :: [] :: [] :: [] :: [] :: [(4, 211)] :: [] :: []
def b_X1_ratio_169 : List zE := (169, .iconst 0, [0]) :: (170, .nop, [0]) :: []
def p_X1_ratio_169 : List (List (Nat × Nat)) := [] :: [] :: []
def b_X1_ratio_152 : List zE := (152, .iload_n 3, []) :: (153, .lload 6, []) :: (155, .aload_n 0, []) :: (156, .getfield 20, [1, 1]) :: (159, .getfield 189, [9, 1]) :: (162, .ifCond .eq 7, [169, 0]) :: (165, .iconst 1, [1]) :: (166, .goto 4, [170, 0]) :: []
def p_X1_ratio_152 : List (List (Nat × Nat)) := [] :: [] :: [] :: [(1, 110)] :: [(1, 98)] :: [] :: [] :: [] :: []
def b_X1_ratio_138 : List zE := (138, .aload_n 0, []) :: (139, .getfield 20, [1, 1]) :: (142, .iconst 1, [1]) :: (143, .invokevirtual 178, [1, 1, 9]) :: (146, .iinc 8 1, [1]) :: (149, .goto (-56), [93, 1]) :: []
def p_X1_ratio_138 : List (List (Nat × Nat)) := [] :: [(1, 110)] :: [] :: [(4, 208)] :: [] :: [] :: []
def b_X1_ratio_93 : List zE := (93, .iload 8, []) :: (95, .bipush 58, [58]) :: (97, .if_icmp .ge 55, [152, 0]) :: (100, .lload 6, []) :: (102, .iconst 1, [1]) :: (103, .lshl, []) :: (104, .lstore 6, []) :: (106, .aload_n 0, []) :: (107, .getfield 20, [1, 1]) :: (110, .aload_n 0, []) :: (111, .getfield 24, [1, 2]) :: (114, .invokevirtual 181, [2, 1, 9]) :: (117, .ifCond .lt 21, [138, 0]) :: (120, .aload_n 0, []) :: (121, .getfield 20, [1, 1]) :: (124, .aload_n 0, []) :: (125, .getfield 24, [1, 2]) :: (128, .iconst 0, [0]) :: (129, .invokevirtual 185, [3, 2, 9]) :: (132, .lload 6, []) :: (134, .lconst 1, [1]) :: (135, .ladd, []) :: (136, .lstore 6, []) :: (138, .nop, [0]) :: []
def p_X1_ratio_93 : List (List (Nat × Nat)) := [] :: [] :: [] :: [] :: [] :: [] :: [] :: [] :: [(1, 110)] :: [] :: [(1, 111)] :: [(4, 209)] :: [] :: [] :: [(1, 110)] :: [] :: [(1, 111)] :: [] :: [(4, 210)] :: [] :: [] :: [] :: [] :: [] :: []
def b_X1_ratio_44 : List zE := (44, .istore_n 3, []) :: (45, .aload_n 0, []) :: (46, .getfield 20, [1, 1]) :: (49, .invokevirtual 175, [0, 0, 9]) :: (52, .istore 4, []) :: (54, .aload_n 0, []) :: (55, .getfield 24, [1, 2]) :: (58, .invokevirtual 175, [0, 0, 9]) :: (61, .istore 5, []) :: (63, .aload_n 0, []) :: (64, .getfield 20, [1, 1]) :: (67, .iload 5, []) :: (69, .iload 4, []) :: (71, .isub, []) :: (72, .invokevirtual 178, [1, 1, 9]) :: (75, .aload_n 0, []) :: (76, .getfield 24, [1, 2]) :: (79, .iload 4, []) :: (81, .iload 5, []) :: (83, .isub, []) :: (84, .invokevirtual 178, [1, 1, 9]) :: (87, .lconst 0, [0]) :: (88, .lstore 6, []) :: (90, .iconst 0, [0]) :: (91, .istore 8, []) :: (93, .nop, []) :: []
def p_X1_ratio_44 : List (List (Nat × Nat)) := [] :: [] :: [(1, 110)] :: [(4, 203)] :: [] :: [] :: [(1, 111)] :: [(4, 203)] :: [] :: [] :: [(1, 110)] :: [] :: [] :: [] :: [(4, 208)] :: [] :: [(1, 111)] :: [] :: [] :: [] :: [(4, 208)] :: [] :: [] :: [] :: [] :: [] :: []
def b_X1_ratio_43 : List zE := (43, .iconst 0, [0]) :: (44, .nop, [0]) :: []
def p_X1_ratio_43 : List (List (Nat × Nat)) := [] :: [] :: []
def b_X1_ratio_22 : List zE := (22, .aload_n 0, []) :: (23, .getfield 20, [1, 1]) :: (26, .getfield 124, [9, 2]) :: (29, .aload_n 0, []) :: (30, .getfield 24, [1, 2]) :: (33, .getfield 124, [9, 2]) :: (36, .if_icmp .eq 7, [43, 0]) :: (39, .iconst 1, [1]) :: (40, .goto 4, [44, 0]) :: []
def p_X1_ratio_22 : List (List (Nat × Nat)) := [] :: [(1, 110)] :: [(1, 100)] :: [] :: [(1, 111)] :: [(1, 100)] :: [] :: [] :: [] :: []
def b_X1_ratio_20 : List zE := (20, .lconst 0, [0]) :: (21, .lreturn, []) :: []
def p_X1_ratio_20 : List (List (Nat × Nat)) := [] :: [] :: []
def b_X1_ratio_0 : List zE := (0, .aload_n 0, []) :: (1, .getfield 20, [1, 1]) :: (4, .getfield 124, [9, 2]) :: (7, .ifCond .eq 13, [20, 0]) :: (10, .aload_n 0, []) :: (11, .getfield 24, [1, 2]) :: (14, .getfield 124, [9, 2]) :: (17, .ifCond .ne 5, [22, 0]) :: (20, .nop, [0]) :: []
def p_X1_ratio_0 : List (List (Nat × Nat)) := [] :: [(1, 110)] :: [(1, 100)] :: [] :: [] :: [(1, 111)] :: [(1, 100)] :: [] :: [] :: []
def bl_X1_ratio : List (Nat × List zE) := [(0, b_X1_ratio_0), (20, b_X1_ratio_20), (22, b_X1_ratio_22), (43, b_X1_ratio_43), (44, b_X1_ratio_44), (93, b_X1_ratio_93), (138, b_X1_ratio_138), (152, b_X1_ratio_152), (169, b_X1_ratio_169), (170, b_X1_ratio_170)]
def pl_X1_ratio : List (List (List (Nat × Nat))) := [p_X1_ratio_0, p_X1_ratio_20, p_X1_ratio_22, p_X1_ratio_43, p_X1_ratio_44, p_X1_ratio_93, p_X1_ratio_138, p_X1_ratio_152, p_X1_ratio_169, p_X1_ratio_170]
theorem k_X1_ratio_0 : zlk 0 bl_X1_ratio = b_X1_ratio_0 := rfl
theorem k_X1_ratio_20 : zlk 20 bl_X1_ratio = b_X1_ratio_20 := rfl
theorem k_X1_ratio_22 : zlk 22 bl_X1_ratio = b_X1_ratio_22 := rfl
theorem k_X1_ratio_43 : zlk 43 bl_X1_ratio = b_X1_ratio_43 := rfl
theorem k_X1_ratio_44 : zlk 44 bl_X1_ratio = b_X1_ratio_44 := rfl
theorem k_X1_ratio_93 : zlk 93 bl_X1_ratio = b_X1_ratio_93 := rfl
theorem k_X1_ratio_138 : zlk 138 bl_X1_ratio = b_X1_ratio_138 := rfl
theorem k_X1_ratio_152 : zlk 152 bl_X1_ratio = b_X1_ratio_152 := rfl
theorem k_X1_ratio_169 : zlk 169 bl_X1_ratio = b_X1_ratio_169 := rfl
theorem k_X1_ratio_170 : zlk 170 bl_X1_ratio = b_X1_ratio_170 := rfl
set_option maxRecDepth 100000 in
theorem ck_X1_ratio : zall q_X1_ratio.2.2.2.2.1 q_X1_ratio.2.1 1 false q_X1_ratio.2.2.1 cal_X1_ratio q_X1_ratio.2.2.2.1 bl_X1_ratio pl_X1_ratio = true := by decide +kernel
theorem nm_X1_ratio : plainName q_X1_ratio.1.cls = true ∧ zRX 1 = q_X1_ratio.1.cls ∧ (false = true → q_X1_ratio.1.name = "<init>") := ⟨by decide +kernel, rfl, fun h => by first | rfl | cases h⟩
