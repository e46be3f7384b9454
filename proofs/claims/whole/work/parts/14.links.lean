theorem in_tbl (i : Nat) {w : Cond} (h : lw_tbl[i]? = some w) (hg : goodWord w = true) : w ∈ tblG := List.mem_filter.mpr ⟨List.mem_of_getElem? h, hg⟩
abbrev mX0_init : Md := (yX0_init, cX0_init, 3, none, { frames := 2, cells := 36, slots := 406, locals := 44 })
abbrev mX0_ofKind : Md := (yX0_ofKind, cX0_ofKind, 4, none, { frames := 3, cells := 0, slots := 0, locals := 65 })
abbrev mX0_geometric : Md := (yX0_geometric, cX0_geometric, 4, none, { frames := 0, cells := 0, slots := 0, locals := 0 })
abbrev mX0_exponential : Md := (yX0_exponential, cX0_exponential, 4, none, { frames := 1, cells := 0, slots := 0, locals := 23 })
abbrev mX0_logarithm : Md := (yX0_logarithm, cX0_logarithm, 4, none, { frames := 2, cells := 0, slots := 0, locals := 42 })
abbrev mX0_turned : Md := (yX0_turned, cX0_turned, 4, none, { frames := 4, cells := 0, slots := 0, locals := 90 })
abbrev mX0_tBy : Md := (yX0_tBy, cX0_tBy, 3, none, { frames := 3, cells := 0, slots := 0, locals := 68 })
abbrev mX0_oneByInto : Md := (yX0_oneByInto, cX0_oneByInto, 4, none, { frames := 3, cells := 0, slots := 0, locals := 68 })
abbrev mX0_operated : Md := (yX0_operated, cX0_operated, 7, none, { frames := 0, cells := 0, slots := 0, locals := 0 })
abbrev mX0_build : Md := (yX0_build, cX0_build, 7, none, { frames := 5, cells := 0, slots := 0, locals := 113 })
abbrev mX0_firstNotLowered : Md := (yX0_firstNotLowered, cX0_firstNotLowered, 4, (some .int), { frames := 1, cells := 0, slots := 0, locals := 26 })
abbrev mX0_isTimes : Md := (yX0_isTimes, cX0_isTimes, 4, (some .boolean), { frames := 0, cells := 0, slots := 0, locals := 0 })
abbrev mX0_toldIn : Md := (yX0_toldIn, cX0_toldIn, 8, (some .int), { frames := 2, cells := 0, slots := 0, locals := 61 })
abbrev mX0_binomialUpTo : Md := (yX0_binomialUpTo, cX0_binomialUpTo, 4, (some .int), { frames := 3, cells := 0, slots := 0, locals := 66 })
abbrev mX0_isBinomialAt : Md := (yX0_isBinomialAt, cX0_isBinomialAt, 6, (some .boolean), { frames := 0, cells := 0, slots := 0, locals := 0 })
abbrev mX0_summed : Md := (yX0_summed, cX0_summed, 8, (some .int), { frames := 4, cells := 0, slots := 0, locals := 90 })
abbrev mX0_differenceAt : Md := (yX0_differenceAt, cX0_differenceAt, 4, (some .int), { frames := 4, cells := 0, slots := 0, locals := 90 })
abbrev mX0_fillDifferencesAt : Md := (yX0_fillDifferencesAt, cX0_fillDifferencesAt, 5, none, { frames := 3, cells := 0, slots := 0, locals := 66 })
abbrev mX0_valuesToDifferences : Md := (yX0_valuesToDifferences, cX0_valuesToDifferences, 3, none, { frames := 2, cells := 0, slots := 0, locals := 42 })
abbrev mX0_throughValues : Md := (yX0_throughValues, cX0_throughValues, 6, none, { frames := 3, cells := 0, slots := 0, locals := 64 })
abbrev mX1_init : Md := (yX1_init, cX1_init, 2, none, { frames := 2, cells := 21, slots := 120, locals := 40 })
abbrev mX2_of : Md := (yX2_of, cX2_of, 1, (some .int), { frames := 1, cells := 0, slots := 0, locals := 22 })
abbrev mX2_inverse : Md := (yX2_inverse, cX2_inverse, 3, (some .int), { frames := 0, cells := 0, slots := 0, locals := 0 })
abbrev mX3_init : Md := (yX3_init, cX3_init, 1, none, { frames := 1, cells := 1, slots := 10, locals := 20 })
abbrev mX3_canDivide : Md := (yX3_canDivide, cX3_canDivide, 1, (some .boolean), { frames := 0, cells := 0, slots := 0, locals := 0 })
abbrev mX3_canBePutIn : Md := (yX3_canBePutIn, cX3_canBePutIn, 1, (some .boolean), { frames := 0, cells := 0, slots := 0, locals := 0 })
abbrev mX3_canTurn : Md := (yX3_canTurn, cX3_canTurn, 1, (some .boolean), { frames := 0, cells := 0, slots := 0, locals := 0 })
abbrev mX3_becomeConstant : Md := (yX3_becomeConstant, cX3_becomeConstant, 2, none, { frames := 1, cells := 0, slots := 0, locals := 23 })
abbrev mX3_becomeCopyOf : Md := (yX3_becomeCopyOf, cX3_becomeCopyOf, 2, none, { frames := 1, cells := 0, slots := 0, locals := 40 })
abbrev mX3_becomeTotal : Md := (yX3_becomeTotal, cX3_becomeTotal, 4, none, { frames := 0, cells := 0, slots := 0, locals := 0 })
abbrev mX3_becomeRest : Md := (yX3_becomeRest, cX3_becomeRest, 4, none, { frames := 2, cells := 0, slots := 0, locals := 42 })
abbrev mX3_becomeTimes : Md := (yX3_becomeTimes, cX3_becomeTimes, 6, none, { frames := 0, cells := 0, slots := 0, locals := 0 })
abbrev mX3_becomeQuotient : Md := (yX3_becomeQuotient, cX3_becomeQuotient, 7, none, { frames := 2, cells := 0, slots := 0, locals := 42 })
abbrev mX3_becomeInto : Md := (yX3_becomeInto, cX3_becomeInto, 4, none, { frames := 2, cells := 0, slots := 0, locals := 44 })
abbrev mX3_becomeRaised : Md := (yX3_becomeRaised, cX3_becomeRaised, 4, none, { frames := 2, cells := 0, slots := 0, locals := 44 })
abbrev mX3_becomeShiftedDown : Md := (yX3_becomeShiftedDown, cX3_becomeShiftedDown, 2, none, { frames := 1, cells := 0, slots := 0, locals := 40 })
abbrev mX3_becomeShiftedUp : Md := (yX3_becomeShiftedUp, cX3_becomeShiftedUp, 2, none, { frames := 1, cells := 0, slots := 0, locals := 40 })
abbrev mX3_becomeTimesFactor : Md := (yX3_becomeTimesFactor, cX3_becomeTimesFactor, 3, none, { frames := 2, cells := 0, slots := 0, locals := 42 })
abbrev mX3_valueAt : Md := (yX3_valueAt, cX3_valueAt, 5, (some .int), { frames := 2, cells := 0, slots := 0, locals := 42 })
abbrev mX3_degree : Md := (yX3_degree, cX3_degree, 2, (some .int), { frames := 0, cells := 0, slots := 0, locals := 0 })
abbrev mX3_mixedInto : Md := (yX3_mixedInto, cX3_mixedInto, 6, (some .long), { frames := 0, cells := 0, slots := 0, locals := 0 })
abbrev mX4_init : Md := (yX4_init, cX4_init, 1, none, { frames := 1, cells := 1, slots := 20, locals := 20 })
abbrev mX4_renew : Md := (yX4_renew, cX4_renew, 3, none, { frames := 1, cells := 0, slots := 0, locals := 23 })
abbrev mX4_findingAt : Md := (yX4_findingAt, cX4_findingAt, 3, (some .int), { frames := 0, cells := 0, slots := 0, locals := 0 })
abbrev mX4_hasStretch : Md := (yX4_hasStretch, cX4_hasStretch, 3, (some .boolean), { frames := 0, cells := 0, slots := 0, locals := 0 })
abbrev mX4_number : Md := (yX4_number, cX4_number, 2, (some .int), { frames := 2, cells := 0, slots := 0, locals := 42 })
abbrev mX5_init : Md := (yX5_init, cX5_init, 2, none, { frames := 3, cells := 155, slots := 1175, locals := 66 })
abbrev mX5_sheet : Md := (yX5_sheet, cX5_sheet, 4, (some .int), { frames := 2, cells := 0, slots := 0, locals := 45 })
abbrev mX5_lose : Md := (yX5_lose, cX5_lose, 2, (some .int), { frames := 1, cells := 0, slots := 0, locals := 21 })
abbrev mX5_put : Md := (yX5_put, cX5_put, 6, (some .int), { frames := 1, cells := 0, slots := 0, locals := 22 })
abbrev mX5_get : Md := (yX5_get, cX5_get, 5, (some .int), { frames := 1, cells := 0, slots := 0, locals := 22 })
abbrev mX5_copy : Md := (yX5_copy, cX5_copy, 6, (some .int), { frames := 1, cells := 0, slots := 0, locals := 40 })
abbrev mX5_term : Md := (yX5_term, cX5_term, 3, (some .int), { frames := 3, cells := 0, slots := 0, locals := 63 })
abbrev mX5_kind : Md := (yX5_kind, cX5_kind, 4, (some .int), { frames := 4, cells := 0, slots := 0, locals := 88 })
abbrev mX5_join : Md := (yX5_join, cX5_join, 5, (some .int), { frames := 4, cells := 0, slots := 0, locals := 86 })
abbrev mX5_over : Md := (yX5_over, cX5_over, 4, (some .int), { frames := 4, cells := 0, slots := 0, locals := 86 })
abbrev mX5_into : Md := (yX5_into, cX5_into, 4, (some .int), { frames := 4, cells := 0, slots := 0, locals := 86 })
abbrev mX5_turn : Md := (yX5_turn, cX5_turn, 3, (some .int), { frames := 5, cells := 0, slots := 0, locals := 113 })
abbrev mX5_power : Md := (yX5_power, cX5_power, 4, (some .int), { frames := 4, cells := 0, slots := 0, locals := 86 })
abbrev mX5_value : Md := (yX5_value, cX5_value, 3, (some .int), { frames := 4, cells := 0, slots := 0, locals := 86 })
abbrev mX5_apply : Md := (yX5_apply, cX5_apply, 4, (some .int), { frames := 4, cells := 0, slots := 0, locals := 86 })
abbrev mX5_ladder : Md := (yX5_ladder, cX5_ladder, 4, (some .int), { frames := 6, cells := 0, slots := 0, locals := 139 })
abbrev mX5_step : Md := (yX5_step, cX5_step, 4, (some .int), { frames := 1, cells := 0, slots := 0, locals := 20 })
abbrev mX5_at : Md := (yX5_at, cX5_at, 4, (some .int), { frames := 3, cells := 0, slots := 0, locals := 66 })
abbrev mX5_tell : Md := (yX5_tell, cX5_tell, 4, (some .int), { frames := 3, cells := 0, slots := 0, locals := 67 })
abbrev mX5_lowers : Md := (yX5_lowers, cX5_lowers, 3, (some .int), { frames := 4, cells := 0, slots := 0, locals := 86 })
abbrev mX5_bound : Md := (yX5_bound, cX5_bound, 5, (some .int), { frames := 3, cells := 0, slots := 0, locals := 88 })
abbrev mX5_binomial : Md := (yX5_binomial, cX5_binomial, 2, (some .int), { frames := 4, cells := 0, slots := 0, locals := 89 })
abbrev mX5_sum : Md := (yX5_sum, cX5_sum, 4, (some .int), { frames := 5, cells := 0, slots := 0, locals := 117 })
abbrev mX5_through : Md := (yX5_through, cX5_through, 4, (some .int), { frames := 4, cells := 0, slots := 0, locals := 89 })
abbrev mX5_difference : Md := (yX5_difference, cX5_difference, 4, (some .int), { frames := 5, cells := 0, slots := 0, locals := 113 })
abbrev mX5_triangle : Md := (yX5_triangle, cX5_triangle, 5, (some .int), { frames := 4, cells := 0, slots := 0, locals := 86 })
abbrev mX5_product : Md := (yX5_product, cX5_product, 7, (some .int), { frames := 4, cells := 0, slots := 0, locals := 86 })
abbrev mX5_back : Md := (yX5_back, cX5_back, 5, (some .int), { frames := 5, cells := 0, slots := 0, locals := 113 })
abbrev mX5_aRow : Md := (yX5_aRow, cX5_aRow, 3, (some .int), { frames := 5, cells := 0, slots := 0, locals := 113 })
abbrev mX5_count : Md := (yX5_count, cX5_count, 2, (some .int), { frames := 1, cells := 0, slots := 0, locals := 22 })
abbrev mX5_digest : Md := (yX5_digest, cX5_digest, 4, (some .long), { frames := 4, cells := 0, slots := 0, locals := 86 })
abbrev mX5_isSheet : Md := (yX5_isSheet, cX5_isSheet, 1, (some .boolean), { frames := 0, cells := 0, slots := 0, locals := 0 })
abbrev mX5_isForm : Md := (yX5_isForm, cX5_isForm, 1, (some .boolean), { frames := 0, cells := 0, slots := 0, locals := 0 })
abbrev mX5_isLadder : Md := (yX5_isLadder, cX5_isLadder, 1, (some .boolean), { frames := 0, cells := 0, slots := 0, locals := 0 })
abbrev mX5_isPlace : Md := (yX5_isPlace, cX5_isPlace, 1, (some .boolean), { frames := 0, cells := 0, slots := 0, locals := 0 })
abbrev mX5_narrowed : Md := (yX5_narrowed, cX5_narrowed, 2, (some .int), { frames := 0, cells := 0, slots := 0, locals := 0 })
abbrev mX5_found : Md := (yX5_found, cX5_found, 2, (some .int), { frames := 0, cells := 0, slots := 0, locals := 0 })
abbrev mX5_reads : Md := (yX5_reads, cX5_reads, 4, (some .boolean), { frames := 3, cells := 0, slots := 0, locals := 63 })
abbrev mX5_becomes : Md := (yX5_becomes, cX5_becomes, 3, (some .int), { frames := 2, cells := 0, slots := 0, locals := 45 })
abbrev mX5_sheetsKept : Md := (yX5_sheetsKept, cX5_sheetsKept, 3, (some .int), { frames := 0, cells := 0, slots := 0, locals := 0 })
abbrev mX5_laddersStanding : Md := (yX5_laddersStanding, cX5_laddersStanding, 3, (some .int), { frames := 0, cells := 0, slots := 0, locals := 0 })
abbrev mX6_init : Md := (yX6_init, cX6_init, 1, none, { frames := 1, cells := 15, slots := 688, locals := 20 })
abbrev mX6_in : Md := (yX6_in, cX6_in, 3, (some .boolean), { frames := 0, cells := 0, slots := 0, locals := 0 })
abbrev mX6_mod : Md := (yX6_mod, cX6_mod, 4, (some .int), { frames := 0, cells := 0, slots := 0, locals := 0 })
abbrev mX6_toThe : Md := (yX6_toThe, cX6_toThe, 7, (some .int), { frames := 0, cells := 0, slots := 0, locals := 0 })
abbrev mX6_turnedNumber : Md := (yX6_turnedNumber, cX6_turnedNumber, 1, (some .int), { frames := 1, cells := 0, slots := 0, locals := 26 })
abbrev mX6_factorial : Md := (yX6_factorial, cX6_factorial, 3, (some .int), { frames := 1, cells := 0, slots := 0, locals := 23 })
abbrev mX6_meets : Md := (yX6_meets, cX6_meets, 2, (some .int), { frames := 0, cells := 0, slots := 0, locals := 0 })
abbrev mX6_isSheet : Md := (yX6_isSheet, cX6_isSheet, 1, (some .boolean), { frames := 1, cells := 0, slots := 0, locals := 22 })
abbrev mX6_sheet : Md := (yX6_sheet, cX6_sheet, 5, (some .int), { frames := 2, cells := 0, slots := 0, locals := 42 })
abbrev mX6_lose : Md := (yX6_lose, cX6_lose, 2, (some .int), { frames := 2, cells := 0, slots := 0, locals := 42 })
abbrev mX6_lacks : Md := (yX6_lacks, cX6_lacks, 4, (some .int), { frames := 1, cells := 0, slots := 0, locals := 22 })
abbrev mX6_put : Md := (yX6_put, cX6_put, 6, (some .int), { frames := 2, cells := 0, slots := 0, locals := 45 })
abbrev mX6_get : Md := (yX6_get, cX6_get, 5, (some .int), { frames := 2, cells := 0, slots := 0, locals := 45 })
abbrev mX6_copy : Md := (yX6_copy, cX6_copy, 7, (some .int), { frames := 2, cells := 0, slots := 0, locals := 42 })
abbrev mX6_read : Md := (yX6_read, cX6_read, 4, none, { frames := 1, cells := 0, slots := 0, locals := 23 })
abbrev mX6_tells : Md := (yX6_tells, cX6_tells, 4, (some .int), { frames := 0, cells := 0, slots := 0, locals := 0 })
abbrev mX6_set : Md := (yX6_set, cX6_set, 3, none, { frames := 0, cells := 0, slots := 0, locals := 0 })
abbrev mX6_times : Md := (yX6_times, cX6_times, 7, none, { frames := 1, cells := 0, slots := 0, locals := 23 })
abbrev mX6_by : Md := (yX6_by, cX6_by, 8, none, { frames := 2, cells := 0, slots := 0, locals := 46 })
abbrev mX6_one : Md := (yX6_one, cX6_one, 2, none, { frames := 0, cells := 0, slots := 0, locals := 0 })
abbrev mX6_puts : Md := (yX6_puts, cX6_puts, 6, none, { frames := 2, cells := 0, slots := 0, locals := 49 })
abbrev mX6_canTurn : Md := (yX6_canTurn, cX6_canTurn, 1, (some .boolean), { frames := 0, cells := 0, slots := 0, locals := 0 })
abbrev mX6_turns : Md := (yX6_turns, cX6_turns, 6, none, { frames := 3, cells := 0, slots := 0, locals := 74 })
abbrev mX6_term : Md := (yX6_term, cX6_term, 3, (some .int), { frames := 2, cells := 0, slots := 0, locals := 46 })
abbrev mX6_kind : Md := (yX6_kind, cX6_kind, 9, (some .int), { frames := 2, cells := 0, slots := 0, locals := 46 })
abbrev mX6_isLost : Md := (yX6_isLost, cX6_isLost, 2, (some .boolean), { frames := 0, cells := 0, slots := 0, locals := 0 })
abbrev mX6_join : Md := (yX6_join, cX6_join, 6, (some .int), { frames := 2, cells := 0, slots := 0, locals := 49 })
abbrev mX6_over : Md := (yX6_over, cX6_over, 4, (some .int), { frames := 3, cells := 0, slots := 0, locals := 73 })
abbrev mX6_into : Md := (yX6_into, cX6_into, 4, (some .int), { frames := 3, cells := 0, slots := 0, locals := 74 })
abbrev mX6_turn : Md := (yX6_turn, cX6_turn, 3, (some .int), { frames := 4, cells := 0, slots := 0, locals := 99 })
abbrev mX6_power : Md := (yX6_power, cX6_power, 5, (some .int), { frames := 2, cells := 0, slots := 0, locals := 49 })
abbrev mX6_valueOf : Md := (yX6_valueOf, cX6_valueOf, 4, (some .int), { frames := 1, cells := 0, slots := 0, locals := 23 })
abbrev mX6_value : Md := (yX6_value, cX6_value, 3, (some .int), { frames := 2, cells := 0, slots := 0, locals := 46 })
abbrev mX6_works : Md := (yX6_works, cX6_works, 9, none, { frames := 1, cells := 0, slots := 0, locals := 23 })
abbrev mX6_apply : Md := (yX6_apply, cX6_apply, 4, (some .int), { frames := 2, cells := 0, slots := 0, locals := 51 })
abbrev mX6_isRung : Md := (yX6_isRung, cX6_isRung, 2, (some .boolean), { frames := 1, cells := 0, slots := 0, locals := 22 })
abbrev mX6_canLadder : Md := (yX6_canLadder, cX6_canLadder, 1, (some .boolean), { frames := 4, cells := 0, slots := 0, locals := 99 })
abbrev mX6_ladder : Md := (yX6_ladder, cX6_ladder, 7, (some .int), { frames := 5, cells := 0, slots := 0, locals := 119 })
abbrev mX6_step : Md := (yX6_step, cX6_step, 4, (some .int), { frames := 2, cells := 0, slots := 0, locals := 43 })
abbrev mX6_rung : Md := (yX6_rung, cX6_rung, 5, none, { frames := 0, cells := 0, slots := 0, locals := 0 })
abbrev mX6_at : Md := (yX6_at, cX6_at, 4, (some .int), { frames := 2, cells := 0, slots := 0, locals := 46 })
abbrev mX6_tell : Md := (yX6_tell, cX6_tell, 4, (some .int), { frames := 2, cells := 0, slots := 0, locals := 43 })
abbrev mX6_lowers : Md := (yX6_lowers, cX6_lowers, 5, (some .int), { frames := 2, cells := 0, slots := 0, locals := 51 })
abbrev mX6_bound : Md := (yX6_bound, cX6_bound, 8, (some .int), { frames := 2, cells := 0, slots := 0, locals := 46 })
abbrev mX6_choose : Md := (yX6_choose, cX6_choose, 2, (some .int), { frames := 2, cells := 0, slots := 0, locals := 46 })
abbrev mX6_stepAt : Md := (yX6_stepAt, cX6_stepAt, 4, (some .int), { frames := 2, cells := 0, slots := 0, locals := 46 })
abbrev mX6_isBinomial : Md := (yX6_isBinomial, cX6_isBinomial, 8, (some .boolean), { frames := 3, cells := 0, slots := 0, locals := 69 })
abbrev mX6_binomial : Md := (yX6_binomial, cX6_binomial, 3, (some .int), { frames := 4, cells := 0, slots := 0, locals := 96 })
abbrev mX6_differs : Md := (yX6_differs, cX6_differs, 8, (some .int), { frames := 3, cells := 0, slots := 0, locals := 67 })
abbrev mX6_sum : Md := (yX6_sum, cX6_sum, 7, (some .int), { frames := 4, cells := 0, slots := 0, locals := 94 })
abbrev mX6_through : Md := (yX6_through, cX6_through, 8, (some .int), { frames := 2, cells := 0, slots := 0, locals := 46 })
abbrev mX6_difference : Md := (yX6_difference, cX6_difference, 4, (some .int), { frames := 4, cells := 0, slots := 0, locals := 94 })
abbrev mX6_triangle : Md := (yX6_triangle, cX6_triangle, 6, (some .int), { frames := 2, cells := 0, slots := 0, locals := 49 })
abbrev mX6_product : Md := (yX6_product, cX6_product, 9, (some .int), { frames := 3, cells := 0, slots := 0, locals := 74 })
abbrev mX6_back : Md := (yX6_back, cX6_back, 7, (some .int), { frames := 5, cells := 0, slots := 0, locals := 119 })
abbrev mX6_aRow : Md := (yX6_aRow, cX6_aRow, 4, (some .int), { frames := 4, cells := 0, slots := 0, locals := 99 })
abbrev mX6_count : Md := (yX6_count, cX6_count, 4, (some .int), { frames := 0, cells := 0, slots := 0, locals := 0 })
abbrev mX6_digest : Md := (yX6_digest, cX6_digest, 5, (some .long), { frames := 2, cells := 0, slots := 0, locals := 46 })
abbrev mJ9_floorMod_7cf53 : Md := (yJ9_floorMod_7cf53, cJ9_floorMod_7cf53, 3, (some .int), { frames := 0, cells := 0, slots := 0, locals := 0 })
abbrev mJ7_fill_53178 : Md := (yJ7_fill_53178, cJ7_fill_53178, 4, none, { frames := 0, cells := 0, slots := 0, locals := 0 })
theorem lkL_13 : LkV RL 13 mX5_sheet 3 4 := ⟨(in_tbl 185 (by decide +kernel) rfl), (in_tbl 186 (by decide +kernel) rfl), (in_tbl 24 (by decide +kernel) rfl), (in_tbl 188 (by decide +kernel) rfl), (in_tbl 187 (by decide +kernel) rfl), ⟨_, rfl, rfl⟩, by decide +kernel, by decide +kernel, by decide +kernel⟩
theorem lkL_17 : LkV RL 17 mX6_sheet 3 5 := ⟨(in_tbl 581 (by decide +kernel) rfl), (in_tbl 582 (by decide +kernel) rfl), (in_tbl 31 (by decide +kernel) rfl), (in_tbl 584 (by decide +kernel) rfl), (in_tbl 583 (by decide +kernel) rfl), ⟨_, rfl, rfl⟩, by decide +kernel, by decide +kernel, by decide +kernel⟩
theorem lkL_18 : LkV RL 18 mX5_lose 1 4 := ⟨(in_tbl 204 (by decide +kernel) rfl), (in_tbl 205 (by decide +kernel) rfl), (in_tbl 24 (by decide +kernel) rfl), (in_tbl 207 (by decide +kernel) rfl), (in_tbl 206 (by decide +kernel) rfl), ⟨_, rfl, rfl⟩, by decide +kernel, by decide +kernel, by decide +kernel⟩
theorem lkL_22 : LkV RL 22 mX6_lose 1 5 := ⟨(in_tbl 595 (by decide +kernel) rfl), (in_tbl 596 (by decide +kernel) rfl), (in_tbl 31 (by decide +kernel) rfl), (in_tbl 598 (by decide +kernel) rfl), (in_tbl 597 (by decide +kernel) rfl), ⟨_, rfl, rfl⟩, by decide +kernel, by decide +kernel, by decide +kernel⟩
theorem lkL_23 : LkV RL 23 mX5_put 4 4 := ⟨(in_tbl 208 (by decide +kernel) rfl), (in_tbl 209 (by decide +kernel) rfl), (in_tbl 24 (by decide +kernel) rfl), (in_tbl 211 (by decide +kernel) rfl), (in_tbl 210 (by decide +kernel) rfl), ⟨_, rfl, rfl⟩, by decide +kernel, by decide +kernel, by decide +kernel⟩
theorem lkL_27 : LkV RL 27 mX6_put 4 5 := ⟨(in_tbl 599 (by decide +kernel) rfl), (in_tbl 600 (by decide +kernel) rfl), (in_tbl 31 (by decide +kernel) rfl), (in_tbl 602 (by decide +kernel) rfl), (in_tbl 601 (by decide +kernel) rfl), ⟨_, rfl, rfl⟩, by decide +kernel, by decide +kernel, by decide +kernel⟩
theorem lkL_28 : LkV RL 28 mX5_get 3 4 := ⟨(in_tbl 219 (by decide +kernel) rfl), (in_tbl 220 (by decide +kernel) rfl), (in_tbl 24 (by decide +kernel) rfl), (in_tbl 222 (by decide +kernel) rfl), (in_tbl 221 (by decide +kernel) rfl), ⟨_, rfl, rfl⟩, by decide +kernel, by decide +kernel, by decide +kernel⟩
theorem lkL_31 : LkV RL 31 mX6_get 3 5 := ⟨(in_tbl 607 (by decide +kernel) rfl), (in_tbl 608 (by decide +kernel) rfl), (in_tbl 31 (by decide +kernel) rfl), (in_tbl 610 (by decide +kernel) rfl), (in_tbl 609 (by decide +kernel) rfl), ⟨_, rfl, rfl⟩, by decide +kernel, by decide +kernel, by decide +kernel⟩
theorem lkL_32 : LkV RL 32 mX5_copy 5 4 := ⟨(in_tbl 224 (by decide +kernel) rfl), (in_tbl 225 (by decide +kernel) rfl), (in_tbl 24 (by decide +kernel) rfl), (in_tbl 227 (by decide +kernel) rfl), (in_tbl 226 (by decide +kernel) rfl), ⟨_, rfl, rfl⟩, by decide +kernel, by decide +kernel, by decide +kernel⟩
theorem lkL_36 : LkV RL 36 mX6_copy 5 5 := ⟨(in_tbl 612 (by decide +kernel) rfl), (in_tbl 613 (by decide +kernel) rfl), (in_tbl 31 (by decide +kernel) rfl), (in_tbl 615 (by decide +kernel) rfl), (in_tbl 614 (by decide +kernel) rfl), ⟨_, rfl, rfl⟩, by decide +kernel, by decide +kernel, by decide +kernel⟩
theorem lkL_37 : LkV RL 37 mX5_term 2 4 := ⟨(in_tbl 235 (by decide +kernel) rfl), (in_tbl 236 (by decide +kernel) rfl), (in_tbl 24 (by decide +kernel) rfl), (in_tbl 238 (by decide +kernel) rfl), (in_tbl 237 (by decide +kernel) rfl), ⟨_, rfl, rfl⟩, by decide +kernel, by decide +kernel, by decide +kernel⟩
theorem lkL_41 : LkV RL 41 mX6_term 2 5 := ⟨(in_tbl 616 (by decide +kernel) rfl), (in_tbl 617 (by decide +kernel) rfl), (in_tbl 31 (by decide +kernel) rfl), (in_tbl 619 (by decide +kernel) rfl), (in_tbl 618 (by decide +kernel) rfl), ⟨_, rfl, rfl⟩, by decide +kernel, by decide +kernel, by decide +kernel⟩
theorem lkL_42 : LkV RL 42 mX5_kind 3 4 := ⟨(in_tbl 252 (by decide +kernel) rfl), (in_tbl 253 (by decide +kernel) rfl), (in_tbl 24 (by decide +kernel) rfl), (in_tbl 255 (by decide +kernel) rfl), (in_tbl 254 (by decide +kernel) rfl), ⟨_, rfl, rfl⟩, by decide +kernel, by decide +kernel, by decide +kernel⟩
theorem lkL_45 : LkV RL 45 mX6_kind 3 5 := ⟨(in_tbl 628 (by decide +kernel) rfl), (in_tbl 629 (by decide +kernel) rfl), (in_tbl 31 (by decide +kernel) rfl), (in_tbl 631 (by decide +kernel) rfl), (in_tbl 630 (by decide +kernel) rfl), ⟨_, rfl, rfl⟩, by decide +kernel, by decide +kernel, by decide +kernel⟩
theorem lkL_46 : LkV RL 46 mX5_join 4 4 := ⟨(in_tbl 282 (by decide +kernel) rfl), (in_tbl 283 (by decide +kernel) rfl), (in_tbl 24 (by decide +kernel) rfl), (in_tbl 285 (by decide +kernel) rfl), (in_tbl 284 (by decide +kernel) rfl), ⟨_, rfl, rfl⟩, by decide +kernel, by decide +kernel, by decide +kernel⟩
theorem lkL_49 : LkV RL 49 mX6_join 4 5 := ⟨(in_tbl 646 (by decide +kernel) rfl), (in_tbl 647 (by decide +kernel) rfl), (in_tbl 31 (by decide +kernel) rfl), (in_tbl 649 (by decide +kernel) rfl), (in_tbl 648 (by decide +kernel) rfl), ⟨_, rfl, rfl⟩, by decide +kernel, by decide +kernel, by decide +kernel⟩
theorem lkL_50 : LkV RL 50 mX5_over 3 4 := ⟨(in_tbl 303 (by decide +kernel) rfl), (in_tbl 304 (by decide +kernel) rfl), (in_tbl 24 (by decide +kernel) rfl), (in_tbl 306 (by decide +kernel) rfl), (in_tbl 305 (by decide +kernel) rfl), ⟨_, rfl, rfl⟩, by decide +kernel, by decide +kernel, by decide +kernel⟩
theorem lkL_53 : LkV RL 53 mX6_over 3 5 := ⟨(in_tbl 657 (by decide +kernel) rfl), (in_tbl 658 (by decide +kernel) rfl), (in_tbl 31 (by decide +kernel) rfl), (in_tbl 660 (by decide +kernel) rfl), (in_tbl 659 (by decide +kernel) rfl), ⟨_, rfl, rfl⟩, by decide +kernel, by decide +kernel, by decide +kernel⟩
theorem lkL_54 : LkV RL 54 mX5_into 3 4 := ⟨(in_tbl 316 (by decide +kernel) rfl), (in_tbl 317 (by decide +kernel) rfl), (in_tbl 24 (by decide +kernel) rfl), (in_tbl 319 (by decide +kernel) rfl), (in_tbl 318 (by decide +kernel) rfl), ⟨_, rfl, rfl⟩, by decide +kernel, by decide +kernel, by decide +kernel⟩
theorem lkL_57 : LkV RL 57 mX6_into 3 5 := ⟨(in_tbl 664 (by decide +kernel) rfl), (in_tbl 665 (by decide +kernel) rfl), (in_tbl 31 (by decide +kernel) rfl), (in_tbl 667 (by decide +kernel) rfl), (in_tbl 666 (by decide +kernel) rfl), ⟨_, rfl, rfl⟩, by decide +kernel, by decide +kernel, by decide +kernel⟩
theorem lkL_58 : LkV RL 58 mX5_turn 2 4 := ⟨(in_tbl 330 (by decide +kernel) rfl), (in_tbl 331 (by decide +kernel) rfl), (in_tbl 24 (by decide +kernel) rfl), (in_tbl 333 (by decide +kernel) rfl), (in_tbl 332 (by decide +kernel) rfl), ⟨_, rfl, rfl⟩, by decide +kernel, by decide +kernel, by decide +kernel⟩
theorem lkL_61 : LkV RL 61 mX6_turn 2 5 := ⟨(in_tbl 678 (by decide +kernel) rfl), (in_tbl 679 (by decide +kernel) rfl), (in_tbl 31 (by decide +kernel) rfl), (in_tbl 681 (by decide +kernel) rfl), (in_tbl 680 (by decide +kernel) rfl), ⟨_, rfl, rfl⟩, by decide +kernel, by decide +kernel, by decide +kernel⟩
theorem lkL_62 : LkV RL 62 mX5_power 3 4 := ⟨(in_tbl 352 (by decide +kernel) rfl), (in_tbl 353 (by decide +kernel) rfl), (in_tbl 24 (by decide +kernel) rfl), (in_tbl 355 (by decide +kernel) rfl), (in_tbl 354 (by decide +kernel) rfl), ⟨_, rfl, rfl⟩, by decide +kernel, by decide +kernel, by decide +kernel⟩
theorem lkL_65 : LkV RL 65 mX6_power 3 5 := ⟨(in_tbl 689 (by decide +kernel) rfl), (in_tbl 690 (by decide +kernel) rfl), (in_tbl 31 (by decide +kernel) rfl), (in_tbl 692 (by decide +kernel) rfl), (in_tbl 691 (by decide +kernel) rfl), ⟨_, rfl, rfl⟩, by decide +kernel, by decide +kernel, by decide +kernel⟩
theorem lkL_66 : LkV RL 66 mX5_value 2 4 := ⟨(in_tbl 360 (by decide +kernel) rfl), (in_tbl 361 (by decide +kernel) rfl), (in_tbl 24 (by decide +kernel) rfl), (in_tbl 363 (by decide +kernel) rfl), (in_tbl 362 (by decide +kernel) rfl), ⟨_, rfl, rfl⟩, by decide +kernel, by decide +kernel, by decide +kernel⟩
theorem lkL_69 : LkV RL 69 mX6_value 2 5 := ⟨(in_tbl 693 (by decide +kernel) rfl), (in_tbl 694 (by decide +kernel) rfl), (in_tbl 31 (by decide +kernel) rfl), (in_tbl 696 (by decide +kernel) rfl), (in_tbl 695 (by decide +kernel) rfl), ⟨_, rfl, rfl⟩, by decide +kernel, by decide +kernel, by decide +kernel⟩
theorem lkL_70 : LkV RL 70 mX5_apply 3 4 := ⟨(in_tbl 368 (by decide +kernel) rfl), (in_tbl 369 (by decide +kernel) rfl), (in_tbl 24 (by decide +kernel) rfl), (in_tbl 371 (by decide +kernel) rfl), (in_tbl 370 (by decide +kernel) rfl), ⟨_, rfl, rfl⟩, by decide +kernel, by decide +kernel, by decide +kernel⟩
theorem lkL_73 : LkV RL 73 mX6_apply 3 5 := ⟨(in_tbl 700 (by decide +kernel) rfl), (in_tbl 701 (by decide +kernel) rfl), (in_tbl 31 (by decide +kernel) rfl), (in_tbl 703 (by decide +kernel) rfl), (in_tbl 702 (by decide +kernel) rfl), ⟨_, rfl, rfl⟩, by decide +kernel, by decide +kernel, by decide +kernel⟩
theorem lkL_74 : LkV RL 74 mX5_ladder 3 4 := ⟨(in_tbl 376 (by decide +kernel) rfl), (in_tbl 377 (by decide +kernel) rfl), (in_tbl 24 (by decide +kernel) rfl), (in_tbl 379 (by decide +kernel) rfl), (in_tbl 378 (by decide +kernel) rfl), ⟨_, rfl, rfl⟩, by decide +kernel, by decide +kernel, by decide +kernel⟩
theorem lkL_77 : LkV RL 77 mX6_ladder 3 5 := ⟨(in_tbl 707 (by decide +kernel) rfl), (in_tbl 708 (by decide +kernel) rfl), (in_tbl 31 (by decide +kernel) rfl), (in_tbl 710 (by decide +kernel) rfl), (in_tbl 709 (by decide +kernel) rfl), ⟨_, rfl, rfl⟩, by decide +kernel, by decide +kernel, by decide +kernel⟩
theorem lkL_78 : LkV RL 78 mX5_step 3 4 := ⟨(in_tbl 393 (by decide +kernel) rfl), (in_tbl 394 (by decide +kernel) rfl), (in_tbl 24 (by decide +kernel) rfl), (in_tbl 396 (by decide +kernel) rfl), (in_tbl 395 (by decide +kernel) rfl), ⟨_, rfl, rfl⟩, by decide +kernel, by decide +kernel, by decide +kernel⟩
theorem lkL_81 : LkV RL 81 mX6_step 3 5 := ⟨(in_tbl 715 (by decide +kernel) rfl), (in_tbl 716 (by decide +kernel) rfl), (in_tbl 31 (by decide +kernel) rfl), (in_tbl 718 (by decide +kernel) rfl), (in_tbl 717 (by decide +kernel) rfl), ⟨_, rfl, rfl⟩, by decide +kernel, by decide +kernel, by decide +kernel⟩
theorem lkL_82 : LkV RL 82 mX5_at 3 4 := ⟨(in_tbl 397 (by decide +kernel) rfl), (in_tbl 398 (by decide +kernel) rfl), (in_tbl 24 (by decide +kernel) rfl), (in_tbl 400 (by decide +kernel) rfl), (in_tbl 399 (by decide +kernel) rfl), ⟨_, rfl, rfl⟩, by decide +kernel, by decide +kernel, by decide +kernel⟩
theorem lkL_85 : LkV RL 85 mX6_at 3 5 := ⟨(in_tbl 722 (by decide +kernel) rfl), (in_tbl 723 (by decide +kernel) rfl), (in_tbl 31 (by decide +kernel) rfl), (in_tbl 725 (by decide +kernel) rfl), (in_tbl 724 (by decide +kernel) rfl), ⟨_, rfl, rfl⟩, by decide +kernel, by decide +kernel, by decide +kernel⟩
theorem lkL_86 : LkV RL 86 mX5_tell 3 4 := ⟨(in_tbl 401 (by decide +kernel) rfl), (in_tbl 402 (by decide +kernel) rfl), (in_tbl 24 (by decide +kernel) rfl), (in_tbl 404 (by decide +kernel) rfl), (in_tbl 403 (by decide +kernel) rfl), ⟨_, rfl, rfl⟩, by decide +kernel, by decide +kernel, by decide +kernel⟩
theorem lkL_89 : LkV RL 89 mX6_tell 3 5 := ⟨(in_tbl 730 (by decide +kernel) rfl), (in_tbl 731 (by decide +kernel) rfl), (in_tbl 31 (by decide +kernel) rfl), (in_tbl 733 (by decide +kernel) rfl), (in_tbl 732 (by decide +kernel) rfl), ⟨_, rfl, rfl⟩, by decide +kernel, by decide +kernel, by decide +kernel⟩
theorem lkL_90 : LkV RL 90 mX5_lowers 2 4 := ⟨(in_tbl 405 (by decide +kernel) rfl), (in_tbl 406 (by decide +kernel) rfl), (in_tbl 24 (by decide +kernel) rfl), (in_tbl 408 (by decide +kernel) rfl), (in_tbl 407 (by decide +kernel) rfl), ⟨_, rfl, rfl⟩, by decide +kernel, by decide +kernel, by decide +kernel⟩
theorem lkL_93 : LkV RL 93 mX6_lowers 2 5 := ⟨(in_tbl 734 (by decide +kernel) rfl), (in_tbl 735 (by decide +kernel) rfl), (in_tbl 31 (by decide +kernel) rfl), (in_tbl 737 (by decide +kernel) rfl), (in_tbl 736 (by decide +kernel) rfl), ⟨_, rfl, rfl⟩, by decide +kernel, by decide +kernel, by decide +kernel⟩
theorem lkL_94 : LkV RL 94 mX5_bound 4 4 := ⟨(in_tbl 417 (by decide +kernel) rfl), (in_tbl 418 (by decide +kernel) rfl), (in_tbl 24 (by decide +kernel) rfl), (in_tbl 420 (by decide +kernel) rfl), (in_tbl 419 (by decide +kernel) rfl), ⟨_, rfl, rfl⟩, by decide +kernel, by decide +kernel, by decide +kernel⟩
theorem lkL_97 : LkV RL 97 mX6_bound 4 5 := ⟨(in_tbl 738 (by decide +kernel) rfl), (in_tbl 739 (by decide +kernel) rfl), (in_tbl 31 (by decide +kernel) rfl), (in_tbl 741 (by decide +kernel) rfl), (in_tbl 740 (by decide +kernel) rfl), ⟨_, rfl, rfl⟩, by decide +kernel, by decide +kernel, by decide +kernel⟩
theorem lkL_98 : LkV RL 98 mX5_binomial 1 4 := ⟨(in_tbl 429 (by decide +kernel) rfl), (in_tbl 430 (by decide +kernel) rfl), (in_tbl 24 (by decide +kernel) rfl), (in_tbl 432 (by decide +kernel) rfl), (in_tbl 431 (by decide +kernel) rfl), ⟨_, rfl, rfl⟩, by decide +kernel, by decide +kernel, by decide +kernel⟩
theorem lkL_101 : LkV RL 101 mX6_binomial 1 5 := ⟨(in_tbl 742 (by decide +kernel) rfl), (in_tbl 743 (by decide +kernel) rfl), (in_tbl 31 (by decide +kernel) rfl), (in_tbl 745 (by decide +kernel) rfl), (in_tbl 744 (by decide +kernel) rfl), ⟨_, rfl, rfl⟩, by decide +kernel, by decide +kernel, by decide +kernel⟩
theorem lkL_102 : LkV RL 102 mX5_sum 3 4 := ⟨(in_tbl 442 (by decide +kernel) rfl), (in_tbl 443 (by decide +kernel) rfl), (in_tbl 24 (by decide +kernel) rfl), (in_tbl 445 (by decide +kernel) rfl), (in_tbl 444 (by decide +kernel) rfl), ⟨_, rfl, rfl⟩, by decide +kernel, by decide +kernel, by decide +kernel⟩
theorem lkL_105 : LkV RL 105 mX6_sum 3 5 := ⟨(in_tbl 757 (by decide +kernel) rfl), (in_tbl 758 (by decide +kernel) rfl), (in_tbl 31 (by decide +kernel) rfl), (in_tbl 760 (by decide +kernel) rfl), (in_tbl 759 (by decide +kernel) rfl), ⟨_, rfl, rfl⟩, by decide +kernel, by decide +kernel, by decide +kernel⟩
theorem lkL_106 : LkV RL 106 mX5_through 3 4 := ⟨(in_tbl 459 (by decide +kernel) rfl), (in_tbl 460 (by decide +kernel) rfl), (in_tbl 24 (by decide +kernel) rfl), (in_tbl 462 (by decide +kernel) rfl), (in_tbl 461 (by decide +kernel) rfl), ⟨_, rfl, rfl⟩, by decide +kernel, by decide +kernel, by decide +kernel⟩
theorem lkL_109 : LkV RL 109 mX6_through 3 5 := ⟨(in_tbl 766 (by decide +kernel) rfl), (in_tbl 767 (by decide +kernel) rfl), (in_tbl 31 (by decide +kernel) rfl), (in_tbl 769 (by decide +kernel) rfl), (in_tbl 768 (by decide +kernel) rfl), ⟨_, rfl, rfl⟩, by decide +kernel, by decide +kernel, by decide +kernel⟩
theorem lkL_110 : LkV RL 110 mX5_difference 3 4 := ⟨(in_tbl 476 (by decide +kernel) rfl), (in_tbl 477 (by decide +kernel) rfl), (in_tbl 24 (by decide +kernel) rfl), (in_tbl 479 (by decide +kernel) rfl), (in_tbl 478 (by decide +kernel) rfl), ⟨_, rfl, rfl⟩, by decide +kernel, by decide +kernel, by decide +kernel⟩
theorem lkL_113 : LkV RL 113 mX6_difference 3 5 := ⟨(in_tbl 770 (by decide +kernel) rfl), (in_tbl 771 (by decide +kernel) rfl), (in_tbl 31 (by decide +kernel) rfl), (in_tbl 773 (by decide +kernel) rfl), (in_tbl 772 (by decide +kernel) rfl), ⟨_, rfl, rfl⟩, by decide +kernel, by decide +kernel, by decide +kernel⟩
theorem lkL_114 : LkV RL 114 mX5_triangle 4 4 := ⟨(in_tbl 484 (by decide +kernel) rfl), (in_tbl 485 (by decide +kernel) rfl), (in_tbl 24 (by decide +kernel) rfl), (in_tbl 487 (by decide +kernel) rfl), (in_tbl 486 (by decide +kernel) rfl), ⟨_, rfl, rfl⟩, by decide +kernel, by decide +kernel, by decide +kernel⟩
theorem lkL_117 : LkV RL 117 mX6_triangle 4 5 := ⟨(in_tbl 774 (by decide +kernel) rfl), (in_tbl 775 (by decide +kernel) rfl), (in_tbl 31 (by decide +kernel) rfl), (in_tbl 777 (by decide +kernel) rfl), (in_tbl 776 (by decide +kernel) rfl), ⟨_, rfl, rfl⟩, by decide +kernel, by decide +kernel, by decide +kernel⟩
theorem lkL_118 : LkV RL 118 mX5_product 6 4 := ⟨(in_tbl 488 (by decide +kernel) rfl), (in_tbl 489 (by decide +kernel) rfl), (in_tbl 24 (by decide +kernel) rfl), (in_tbl 491 (by decide +kernel) rfl), (in_tbl 490 (by decide +kernel) rfl), ⟨_, rfl, rfl⟩, by decide +kernel, by decide +kernel, by decide +kernel⟩
theorem lkL_122 : LkV RL 122 mX6_product 6 5 := ⟨(in_tbl 778 (by decide +kernel) rfl), (in_tbl 779 (by decide +kernel) rfl), (in_tbl 31 (by decide +kernel) rfl), (in_tbl 781 (by decide +kernel) rfl), (in_tbl 780 (by decide +kernel) rfl), ⟨_, rfl, rfl⟩, by decide +kernel, by decide +kernel, by decide +kernel⟩
theorem lkL_123 : LkV RL 123 mX5_back 4 4 := ⟨(in_tbl 492 (by decide +kernel) rfl), (in_tbl 493 (by decide +kernel) rfl), (in_tbl 24 (by decide +kernel) rfl), (in_tbl 495 (by decide +kernel) rfl), (in_tbl 494 (by decide +kernel) rfl), ⟨_, rfl, rfl⟩, by decide +kernel, by decide +kernel, by decide +kernel⟩
theorem lkL_126 : LkV RL 126 mX6_back 4 5 := ⟨(in_tbl 782 (by decide +kernel) rfl), (in_tbl 783 (by decide +kernel) rfl), (in_tbl 31 (by decide +kernel) rfl), (in_tbl 785 (by decide +kernel) rfl), (in_tbl 784 (by decide +kernel) rfl), ⟨_, rfl, rfl⟩, by decide +kernel, by decide +kernel, by decide +kernel⟩
theorem lkL_127 : LkV RL 127 mX5_aRow 2 4 := ⟨(in_tbl 497 (by decide +kernel) rfl), (in_tbl 498 (by decide +kernel) rfl), (in_tbl 24 (by decide +kernel) rfl), (in_tbl 500 (by decide +kernel) rfl), (in_tbl 499 (by decide +kernel) rfl), ⟨_, rfl, rfl⟩, by decide +kernel, by decide +kernel, by decide +kernel⟩
theorem lkL_130 : LkV RL 130 mX6_aRow 2 5 := ⟨(in_tbl 786 (by decide +kernel) rfl), (in_tbl 787 (by decide +kernel) rfl), (in_tbl 31 (by decide +kernel) rfl), (in_tbl 789 (by decide +kernel) rfl), (in_tbl 788 (by decide +kernel) rfl), ⟨_, rfl, rfl⟩, by decide +kernel, by decide +kernel, by decide +kernel⟩
theorem lkL_131 : LkV RL 131 mX5_count 1 4 := ⟨(in_tbl 502 (by decide +kernel) rfl), (in_tbl 503 (by decide +kernel) rfl), (in_tbl 24 (by decide +kernel) rfl), (in_tbl 505 (by decide +kernel) rfl), (in_tbl 504 (by decide +kernel) rfl), ⟨_, rfl, rfl⟩, by decide +kernel, by decide +kernel, by decide +kernel⟩
theorem lkL_134 : LkV RL 134 mX6_count 1 5 := ⟨(in_tbl 790 (by decide +kernel) rfl), (in_tbl 791 (by decide +kernel) rfl), (in_tbl 31 (by decide +kernel) rfl), (in_tbl 793 (by decide +kernel) rfl), (in_tbl 792 (by decide +kernel) rfl), ⟨_, rfl, rfl⟩, by decide +kernel, by decide +kernel, by decide +kernel⟩
theorem lkL_135 : LkV RL 135 mX5_digest 0 4 := ⟨(in_tbl 514 (by decide +kernel) rfl), (in_tbl 515 (by decide +kernel) rfl), (in_tbl 24 (by decide +kernel) rfl), (in_tbl 517 (by decide +kernel) rfl), (in_tbl 516 (by decide +kernel) rfl), ⟨_, rfl, rfl⟩, by decide +kernel, by decide +kernel, by decide +kernel⟩
theorem lkL_139 : LkV RL 139 mX6_digest 0 5 := ⟨(in_tbl 794 (by decide +kernel) rfl), (in_tbl 795 (by decide +kernel) rfl), (in_tbl 31 (by decide +kernel) rfl), (in_tbl 797 (by decide +kernel) rfl), (in_tbl 796 (by decide +kernel) rfl), ⟨_, rfl, rfl⟩, by decide +kernel, by decide +kernel, by decide +kernel⟩
theorem lkX0_51 : LkV RX0 51 mX3_becomeConstant 1 2 := ⟨(in_tbl 67 (by decide +kernel) rfl), (in_tbl 68 (by decide +kernel) rfl), (in_tbl 26 (by decide +kernel) rfl), (in_tbl 70 (by decide +kernel) rfl), (in_tbl 69 (by decide +kernel) rfl), ⟨_, rfl, rfl⟩, by decide +kernel, by decide +kernel, by decide +kernel⟩
theorem lkX0_55 : LkS RX0 55 mX2_inverse 1 := ⟨(in_tbl 74 (by decide +kernel) rfl), (in_tbl 75 (by decide +kernel) rfl), (in_tbl 28 (by decide +kernel) rfl), (in_tbl 76 (by decide +kernel) rfl), by decide +kernel, by decide +kernel, by decide +kernel⟩
theorem lkX0_64 : LkV RX0 64 mX0_exponential 2 0 := ⟨(in_tbl 260 (by decide +kernel) rfl), (in_tbl 262 (by decide +kernel) rfl), (in_tbl 25 (by decide +kernel) rfl), (in_tbl 263 (by decide +kernel) rfl), (in_tbl 1 (by decide +kernel) rfl), ⟨_, rfl, rfl⟩, by decide +kernel, by decide +kernel, by decide +kernel⟩
theorem lkX0_68 : LkV RX0 68 mX0_geometric 2 0 := ⟨(in_tbl 264 (by decide +kernel) rfl), (in_tbl 266 (by decide +kernel) rfl), (in_tbl 25 (by decide +kernel) rfl), (in_tbl 267 (by decide +kernel) rfl), (in_tbl 2 (by decide +kernel) rfl), ⟨_, rfl, rfl⟩, by decide +kernel, by decide +kernel, by decide +kernel⟩
theorem lkX0_71 : LkV RX0 71 mX3_becomeShiftedUp 1 2 := ⟨(in_tbl 268 (by decide +kernel) rfl), (in_tbl 269 (by decide +kernel) rfl), (in_tbl 26 (by decide +kernel) rfl), (in_tbl 271 (by decide +kernel) rfl), (in_tbl 270 (by decide +kernel) rfl), ⟨_, rfl, rfl⟩, by decide +kernel, by decide +kernel, by decide +kernel⟩
theorem lkX0_75 : LkV RX0 75 mX0_logarithm 2 0 := ⟨(in_tbl 273 (by decide +kernel) rfl), (in_tbl 275 (by decide +kernel) rfl), (in_tbl 25 (by decide +kernel) rfl), (in_tbl 276 (by decide +kernel) rfl), (in_tbl 3 (by decide +kernel) rfl), ⟨_, rfl, rfl⟩, by decide +kernel, by decide +kernel, by decide +kernel⟩
theorem lkX0_78 : LkS RX0 78 mX2_of 1 := ⟨(in_tbl 277 (by decide +kernel) rfl), (in_tbl 247 (by decide +kernel) rfl), (in_tbl 28 (by decide +kernel) rfl), (in_tbl 248 (by decide +kernel) rfl), by decide +kernel, by decide +kernel, by decide +kernel⟩
theorem lkX0_81 : LkV RX0 81 mX0_tBy 2 0 := ⟨(in_tbl 342 (by decide +kernel) rfl), (in_tbl 343 (by decide +kernel) rfl), (in_tbl 25 (by decide +kernel) rfl), (in_tbl 345 (by decide +kernel) rfl), (in_tbl 344 (by decide +kernel) rfl), ⟨_, rfl, rfl⟩, by decide +kernel, by decide +kernel, by decide +kernel⟩
theorem lkX0_85 : LkV RX0 85 mX3_becomeTimes 2 2 := ⟨(in_tbl 351 (by decide +kernel) rfl), (in_tbl 300 (by decide +kernel) rfl), (in_tbl 26 (by decide +kernel) rfl), (in_tbl 302 (by decide +kernel) rfl), (in_tbl 301 (by decide +kernel) rfl), ⟨_, rfl, rfl⟩, by decide +kernel, by decide +kernel, by decide +kernel⟩
theorem lkX0_88 : LkV RX0 88 mX3_becomeShiftedDown 1 2 := ⟨(in_tbl 346 (by decide +kernel) rfl), (in_tbl 347 (by decide +kernel) rfl), (in_tbl 26 (by decide +kernel) rfl), (in_tbl 349 (by decide +kernel) rfl), (in_tbl 348 (by decide +kernel) rfl), ⟨_, rfl, rfl⟩, by decide +kernel, by decide +kernel, by decide +kernel⟩
theorem lkX0_91 : LkV RX0 91 mX3_becomeQuotient 2 2 := ⟨(in_tbl 350 (by decide +kernel) rfl), (in_tbl 312 (by decide +kernel) rfl), (in_tbl 26 (by decide +kernel) rfl), (in_tbl 314 (by decide +kernel) rfl), (in_tbl 313 (by decide +kernel) rfl), ⟨_, rfl, rfl⟩, by decide +kernel, by decide +kernel, by decide +kernel⟩
theorem lkX0_94 : LkV RX0 94 mX3_becomeInto 2 2 := ⟨(in_tbl 392 (by decide +kernel) rfl), (in_tbl 325 (by decide +kernel) rfl), (in_tbl 26 (by decide +kernel) rfl), (in_tbl 327 (by decide +kernel) rfl), (in_tbl 326 (by decide +kernel) rfl), ⟨_, rfl, rfl⟩, by decide +kernel, by decide +kernel, by decide +kernel⟩
theorem lkX0_97 : LkV RX0 97 mX0_turned 2 0 := ⟨(in_tbl 387 (by decide +kernel) rfl), (in_tbl 339 (by decide +kernel) rfl), (in_tbl 25 (by decide +kernel) rfl), (in_tbl 341 (by decide +kernel) rfl), (in_tbl 340 (by decide +kernel) rfl), ⟨_, rfl, rfl⟩, by decide +kernel, by decide +kernel, by decide +kernel⟩
theorem lkX0_100 : LkV RX0 100 mX0_oneByInto 3 0 := ⟨(in_tbl 388 (by decide +kernel) rfl), (in_tbl 389 (by decide +kernel) rfl), (in_tbl 25 (by decide +kernel) rfl), (in_tbl 391 (by decide +kernel) rfl), (in_tbl 390 (by decide +kernel) rfl), ⟨_, rfl, rfl⟩, by decide +kernel, by decide +kernel, by decide +kernel⟩
theorem lkX0_114 : LkV RX0 114 mX0_operated 3 0 := ⟨(in_tbl 413 (by decide +kernel) rfl), (in_tbl 373 (by decide +kernel) rfl), (in_tbl 25 (by decide +kernel) rfl), (in_tbl 375 (by decide +kernel) rfl), (in_tbl 374 (by decide +kernel) rfl), ⟨_, rfl, rfl⟩, by decide +kernel, by decide +kernel, by decide +kernel⟩
theorem lkX0_117 : LkS RX0 117 mX0_isTimes 3 := ⟨(in_tbl 414 (by decide +kernel) rfl), (in_tbl 415 (by decide +kernel) rfl), (in_tbl 25 (by decide +kernel) rfl), (in_tbl 416 (by decide +kernel) rfl), by decide +kernel, by decide +kernel, by decide +kernel⟩
theorem lkX0_121 : LkV RX0 121 mX3_becomeCopyOf 1 2 := ⟨(in_tbl 425 (by decide +kernel) rfl), (in_tbl 426 (by decide +kernel) rfl), (in_tbl 26 (by decide +kernel) rfl), (in_tbl 428 (by decide +kernel) rfl), (in_tbl 427 (by decide +kernel) rfl), ⟨_, rfl, rfl⟩, by decide +kernel, by decide +kernel, by decide +kernel⟩
theorem lkX0_124 : LkV RX0 124 mX3_valueAt 1 2 := ⟨(in_tbl 437 (by decide +kernel) rfl), (in_tbl 365 (by decide +kernel) rfl), (in_tbl 26 (by decide +kernel) rfl), (in_tbl 367 (by decide +kernel) rfl), (in_tbl 366 (by decide +kernel) rfl), ⟨_, rfl, rfl⟩, by decide +kernel, by decide +kernel, by decide +kernel⟩
theorem lkX0_127 : LkV RX0 127 mX0_isBinomialAt 1 0 := ⟨(in_tbl 438 (by decide +kernel) rfl), (in_tbl 440 (by decide +kernel) rfl), (in_tbl 25 (by decide +kernel) rfl), (in_tbl 441 (by decide +kernel) rfl), (in_tbl 6 (by decide +kernel) rfl), ⟨_, rfl, rfl⟩, by decide +kernel, by decide +kernel, by decide +kernel⟩
theorem lkX0_131 : LkV RX0 131 mX0_fillDifferencesAt 2 0 := ⟨(in_tbl 451 (by decide +kernel) rfl), (in_tbl 453 (by decide +kernel) rfl), (in_tbl 25 (by decide +kernel) rfl), (in_tbl 454 (by decide +kernel) rfl), (in_tbl 7 (by decide +kernel) rfl), ⟨_, rfl, rfl⟩, by decide +kernel, by decide +kernel, by decide +kernel⟩
theorem lkX0_135 : LkV RX0 135 mX0_valuesToDifferences 0 0 := ⟨(in_tbl 455 (by decide +kernel) rfl), (in_tbl 457 (by decide +kernel) rfl), (in_tbl 25 (by decide +kernel) rfl), (in_tbl 458 (by decide +kernel) rfl), (in_tbl 8 (by decide +kernel) rfl), ⟨_, rfl, rfl⟩, by decide +kernel, by decide +kernel, by decide +kernel⟩
theorem lkX0_138 : LkC RX0 138 := (in_tbl 467 (by decide +kernel) rfl)
theorem lkX0_144 : LkV RX0 144 mX3_becomeTimesFactor 1 2 := ⟨(in_tbl 468 (by decide +kernel) rfl), (in_tbl 469 (by decide +kernel) rfl), (in_tbl 26 (by decide +kernel) rfl), (in_tbl 471 (by decide +kernel) rfl), (in_tbl 470 (by decide +kernel) rfl), ⟨_, rfl, rfl⟩, by decide +kernel, by decide +kernel, by decide +kernel⟩
theorem lkX2_9 : LkS RX2 9 mJ9_floorMod_7cf53 2 := ⟨(in_tbl 249 (by decide +kernel) rfl), (in_tbl 250 (by decide +kernel) rfl), (in_tbl 33 (by decide +kernel) rfl), (in_tbl 251 (by decide +kernel) rfl), by decide +kernel, by decide +kernel, by decide +kernel⟩
theorem lkX3_15 : LkS RX3 15 mJ7_fill_53178 2 := ⟨(in_tbl 71 (by decide +kernel) rfl), (in_tbl 72 (by decide +kernel) rfl), (in_tbl 27 (by decide +kernel) rfl), (in_tbl 73 (by decide +kernel) rfl), by decide +kernel, by decide +kernel, by decide +kernel⟩
theorem lkX3_21 : LkC RX3 21 := (in_tbl 272 (by decide +kernel) rfl)
theorem lkX3_27 : LkS RX3 27 mX2_of 1 := ⟨(in_tbl 298 (by decide +kernel) rfl), (in_tbl 247 (by decide +kernel) rfl), (in_tbl 28 (by decide +kernel) rfl), (in_tbl 248 (by decide +kernel) rfl), by decide +kernel, by decide +kernel, by decide +kernel⟩
theorem lkX3_33 : LkS RX3 33 mX2_inverse 1 := ⟨(in_tbl 315 (by decide +kernel) rfl), (in_tbl 75 (by decide +kernel) rfl), (in_tbl 28 (by decide +kernel) rfl), (in_tbl 76 (by decide +kernel) rfl), by decide +kernel, by decide +kernel, by decide +kernel⟩
theorem lkX3_36 : LkV RX3 36 mX3_becomeConstant 1 2 := ⟨(in_tbl 328 (by decide +kernel) rfl), (in_tbl 68 (by decide +kernel) rfl), (in_tbl 26 (by decide +kernel) rfl), (in_tbl 70 (by decide +kernel) rfl), (in_tbl 69 (by decide +kernel) rfl), ⟨_, rfl, rfl⟩, by decide +kernel, by decide +kernel, by decide +kernel⟩
theorem lkX3_40 : LkV RX3 40 mX3_becomeTimes 2 2 := ⟨(in_tbl 329 (by decide +kernel) rfl), (in_tbl 300 (by decide +kernel) rfl), (in_tbl 26 (by decide +kernel) rfl), (in_tbl 302 (by decide +kernel) rfl), (in_tbl 301 (by decide +kernel) rfl), ⟨_, rfl, rfl⟩, by decide +kernel, by decide +kernel, by decide +kernel⟩
theorem lkX4_26 : LkS RX4 26 mJ7_fill_53178 2 := ⟨(in_tbl 203 (by decide +kernel) rfl), (in_tbl 72 (by decide +kernel) rfl), (in_tbl 27 (by decide +kernel) rfl), (in_tbl 73 (by decide +kernel) rfl), by decide +kernel, by decide +kernel, by decide +kernel⟩
theorem lkX4_32 : LkS RX4 32 mX2_of 1 := ⟨(in_tbl 246 (by decide +kernel) rfl), (in_tbl 247 (by decide +kernel) rfl), (in_tbl 28 (by decide +kernel) rfl), (in_tbl 248 (by decide +kernel) rfl), by decide +kernel, by decide +kernel, by decide +kernel⟩
theorem lkX5_56 : LkS RX5 56 mX5_isSheet 1 := ⟨(in_tbl 189 (by decide +kernel) rfl), (in_tbl 190 (by decide +kernel) rfl), (in_tbl 24 (by decide +kernel) rfl), (in_tbl 191 (by decide +kernel) rfl), by decide +kernel, by decide +kernel, by decide +kernel⟩
theorem lkX5_60 : LkS RX5 60 mX5_isForm 1 := ⟨(in_tbl 192 (by decide +kernel) rfl), (in_tbl 193 (by decide +kernel) rfl), (in_tbl 24 (by decide +kernel) rfl), (in_tbl 194 (by decide +kernel) rfl), by decide +kernel, by decide +kernel, by decide +kernel⟩
theorem lkX5_63 : LkV RX5 63 mX5_found 1 4 := ⟨(in_tbl 195 (by decide +kernel) rfl), (in_tbl 197 (by decide +kernel) rfl), (in_tbl 24 (by decide +kernel) rfl), (in_tbl 198 (by decide +kernel) rfl), (in_tbl 0 (by decide +kernel) rfl), ⟨_, rfl, rfl⟩, by decide +kernel, by decide +kernel, by decide +kernel⟩
theorem lkX5_67 : LkV RX5 67 mX4_renew 2 3 := ⟨(in_tbl 199 (by decide +kernel) rfl), (in_tbl 200 (by decide +kernel) rfl), (in_tbl 29 (by decide +kernel) rfl), (in_tbl 202 (by decide +kernel) rfl), (in_tbl 201 (by decide +kernel) rfl), ⟨_, rfl, rfl⟩, by decide +kernel, by decide +kernel, by decide +kernel⟩
theorem lkX5_78 : LkV RX5 78 mX4_findingAt 2 3 := ⟨(in_tbl 212 (by decide +kernel) rfl), (in_tbl 213 (by decide +kernel) rfl), (in_tbl 29 (by decide +kernel) rfl), (in_tbl 215 (by decide +kernel) rfl), (in_tbl 214 (by decide +kernel) rfl), ⟨_, rfl, rfl⟩, by decide +kernel, by decide +kernel, by decide +kernel⟩
theorem lkX5_86 : LkS RX5 86 mX5_narrowed 2 := ⟨(in_tbl 216 (by decide +kernel) rfl), (in_tbl 217 (by decide +kernel) rfl), (in_tbl 24 (by decide +kernel) rfl), (in_tbl 218 (by decide +kernel) rfl), by decide +kernel, by decide +kernel, by decide +kernel⟩
theorem lkX5_93 : LkV RX5 93 mX4_hasStretch 2 3 := ⟨(in_tbl 228 (by decide +kernel) rfl), (in_tbl 229 (by decide +kernel) rfl), (in_tbl 29 (by decide +kernel) rfl), (in_tbl 231 (by decide +kernel) rfl), (in_tbl 230 (by decide +kernel) rfl), ⟨_, rfl, rfl⟩, by decide +kernel, by decide +kernel, by decide +kernel⟩
theorem lkX5_97 : LkC RX5 97 := (in_tbl 232 (by decide +kernel) rfl)
theorem lkX5_103 : LkS RX5 103 mX5_isPlace 1 := ⟨(in_tbl 239 (by decide +kernel) rfl), (in_tbl 240 (by decide +kernel) rfl), (in_tbl 24 (by decide +kernel) rfl), (in_tbl 241 (by decide +kernel) rfl), by decide +kernel, by decide +kernel, by decide +kernel⟩
theorem lkX5_106 : LkV RX5 106 mX4_number 1 3 := ⟨(in_tbl 242 (by decide +kernel) rfl), (in_tbl 243 (by decide +kernel) rfl), (in_tbl 29 (by decide +kernel) rfl), (in_tbl 245 (by decide +kernel) rfl), (in_tbl 244 (by decide +kernel) rfl), ⟨_, rfl, rfl⟩, by decide +kernel, by decide +kernel, by decide +kernel⟩
theorem lkX5_109 : LkV RX5 109 mX0_ofKind 3 0 := ⟨(in_tbl 256 (by decide +kernel) rfl), (in_tbl 257 (by decide +kernel) rfl), (in_tbl 25 (by decide +kernel) rfl), (in_tbl 259 (by decide +kernel) rfl), (in_tbl 258 (by decide +kernel) rfl), ⟨_, rfl, rfl⟩, by decide +kernel, by decide +kernel, by decide +kernel⟩
theorem lkX5_113 : LkV RX5 113 mX5_becomes 2 4 := ⟨(in_tbl 278 (by decide +kernel) rfl), (in_tbl 280 (by decide +kernel) rfl), (in_tbl 24 (by decide +kernel) rfl), (in_tbl 281 (by decide +kernel) rfl), (in_tbl 4 (by decide +kernel) rfl), ⟨_, rfl, rfl⟩, by decide +kernel, by decide +kernel, by decide +kernel⟩
theorem lkX5_117 : LkV RX5 117 mX5_reads 2 4 := ⟨(in_tbl 286 (by decide +kernel) rfl), (in_tbl 288 (by decide +kernel) rfl), (in_tbl 24 (by decide +kernel) rfl), (in_tbl 289 (by decide +kernel) rfl), (in_tbl 5 (by decide +kernel) rfl), ⟨_, rfl, rfl⟩, by decide +kernel, by decide +kernel, by decide +kernel⟩
theorem lkX5_121 : LkV RX5 121 mX3_becomeTotal 2 2 := ⟨(in_tbl 290 (by decide +kernel) rfl), (in_tbl 291 (by decide +kernel) rfl), (in_tbl 26 (by decide +kernel) rfl), (in_tbl 293 (by decide +kernel) rfl), (in_tbl 292 (by decide +kernel) rfl), ⟨_, rfl, rfl⟩, by decide +kernel, by decide +kernel, by decide +kernel⟩
theorem lkX5_125 : LkV RX5 125 mX3_becomeRest 2 2 := ⟨(in_tbl 294 (by decide +kernel) rfl), (in_tbl 295 (by decide +kernel) rfl), (in_tbl 26 (by decide +kernel) rfl), (in_tbl 297 (by decide +kernel) rfl), (in_tbl 296 (by decide +kernel) rfl), ⟨_, rfl, rfl⟩, by decide +kernel, by decide +kernel, by decide +kernel⟩
theorem lkX5_128 : LkV RX5 128 mX3_becomeTimes 2 2 := ⟨(in_tbl 299 (by decide +kernel) rfl), (in_tbl 300 (by decide +kernel) rfl), (in_tbl 26 (by decide +kernel) rfl), (in_tbl 302 (by decide +kernel) rfl), (in_tbl 301 (by decide +kernel) rfl), ⟨_, rfl, rfl⟩, by decide +kernel, by decide +kernel, by decide +kernel⟩
theorem lkX5_131 : LkV RX5 131 mX3_canDivide 0 2 := ⟨(in_tbl 307 (by decide +kernel) rfl), (in_tbl 308 (by decide +kernel) rfl), (in_tbl 26 (by decide +kernel) rfl), (in_tbl 310 (by decide +kernel) rfl), (in_tbl 309 (by decide +kernel) rfl), ⟨_, rfl, rfl⟩, by decide +kernel, by decide +kernel, by decide +kernel⟩
theorem lkX5_135 : LkV RX5 135 mX3_becomeQuotient 2 2 := ⟨(in_tbl 311 (by decide +kernel) rfl), (in_tbl 312 (by decide +kernel) rfl), (in_tbl 26 (by decide +kernel) rfl), (in_tbl 314 (by decide +kernel) rfl), (in_tbl 313 (by decide +kernel) rfl), ⟨_, rfl, rfl⟩, by decide +kernel, by decide +kernel, by decide +kernel⟩
theorem lkX5_138 : LkV RX5 138 mX3_canBePutIn 0 2 := ⟨(in_tbl 320 (by decide +kernel) rfl), (in_tbl 321 (by decide +kernel) rfl), (in_tbl 26 (by decide +kernel) rfl), (in_tbl 323 (by decide +kernel) rfl), (in_tbl 322 (by decide +kernel) rfl), ⟨_, rfl, rfl⟩, by decide +kernel, by decide +kernel, by decide +kernel⟩
theorem lkX5_141 : LkV RX5 141 mX3_becomeInto 2 2 := ⟨(in_tbl 324 (by decide +kernel) rfl), (in_tbl 325 (by decide +kernel) rfl), (in_tbl 26 (by decide +kernel) rfl), (in_tbl 327 (by decide +kernel) rfl), (in_tbl 326 (by decide +kernel) rfl), ⟨_, rfl, rfl⟩, by decide +kernel, by decide +kernel, by decide +kernel⟩
theorem lkX5_144 : LkV RX5 144 mX3_canTurn 0 2 := ⟨(in_tbl 334 (by decide +kernel) rfl), (in_tbl 335 (by decide +kernel) rfl), (in_tbl 26 (by decide +kernel) rfl), (in_tbl 337 (by decide +kernel) rfl), (in_tbl 336 (by decide +kernel) rfl), ⟨_, rfl, rfl⟩, by decide +kernel, by decide +kernel, by decide +kernel⟩
theorem lkX5_147 : LkV RX5 147 mX0_turned 2 0 := ⟨(in_tbl 338 (by decide +kernel) rfl), (in_tbl 339 (by decide +kernel) rfl), (in_tbl 25 (by decide +kernel) rfl), (in_tbl 341 (by decide +kernel) rfl), (in_tbl 340 (by decide +kernel) rfl), ⟨_, rfl, rfl⟩, by decide +kernel, by decide +kernel, by decide +kernel⟩
theorem lkX5_150 : LkV RX5 150 mX3_becomeRaised 2 2 := ⟨(in_tbl 356 (by decide +kernel) rfl), (in_tbl 357 (by decide +kernel) rfl), (in_tbl 26 (by decide +kernel) rfl), (in_tbl 359 (by decide +kernel) rfl), (in_tbl 358 (by decide +kernel) rfl), ⟨_, rfl, rfl⟩, by decide +kernel, by decide +kernel, by decide +kernel⟩
theorem lkX5_154 : LkV RX5 154 mX3_valueAt 1 2 := ⟨(in_tbl 364 (by decide +kernel) rfl), (in_tbl 365 (by decide +kernel) rfl), (in_tbl 26 (by decide +kernel) rfl), (in_tbl 367 (by decide +kernel) rfl), (in_tbl 366 (by decide +kernel) rfl), ⟨_, rfl, rfl⟩, by decide +kernel, by decide +kernel, by decide +kernel⟩
theorem lkX5_157 : LkV RX5 157 mX0_operated 3 0 := ⟨(in_tbl 372 (by decide +kernel) rfl), (in_tbl 373 (by decide +kernel) rfl), (in_tbl 25 (by decide +kernel) rfl), (in_tbl 375 (by decide +kernel) rfl), (in_tbl 374 (by decide +kernel) rfl), ⟨_, rfl, rfl⟩, by decide +kernel, by decide +kernel, by decide +kernel⟩
theorem lkX5_161 : LkS RX5 161 mX5_isLadder 1 := ⟨(in_tbl 380 (by decide +kernel) rfl), (in_tbl 381 (by decide +kernel) rfl), (in_tbl 24 (by decide +kernel) rfl), (in_tbl 382 (by decide +kernel) rfl), by decide +kernel, by decide +kernel, by decide +kernel⟩
theorem lkX5_164 : LkV RX5 164 mX0_build 3 0 := ⟨(in_tbl 383 (by decide +kernel) rfl), (in_tbl 384 (by decide +kernel) rfl), (in_tbl 25 (by decide +kernel) rfl), (in_tbl 386 (by decide +kernel) rfl), (in_tbl 385 (by decide +kernel) rfl), ⟨_, rfl, rfl⟩, by decide +kernel, by decide +kernel, by decide +kernel⟩
theorem lkX5_178 : LkV RX5 178 mX0_firstNotLowered 2 0 := ⟨(in_tbl 409 (by decide +kernel) rfl), (in_tbl 410 (by decide +kernel) rfl), (in_tbl 25 (by decide +kernel) rfl), (in_tbl 412 (by decide +kernel) rfl), (in_tbl 411 (by decide +kernel) rfl), ⟨_, rfl, rfl⟩, by decide +kernel, by decide +kernel, by decide +kernel⟩
theorem lkX5_182 : LkV RX5 182 mX0_toldIn 3 0 := ⟨(in_tbl 421 (by decide +kernel) rfl), (in_tbl 422 (by decide +kernel) rfl), (in_tbl 25 (by decide +kernel) rfl), (in_tbl 424 (by decide +kernel) rfl), (in_tbl 423 (by decide +kernel) rfl), ⟨_, rfl, rfl⟩, by decide +kernel, by decide +kernel, by decide +kernel⟩
theorem lkX5_186 : LkV RX5 186 mX0_binomialUpTo 1 0 := ⟨(in_tbl 433 (by decide +kernel) rfl), (in_tbl 434 (by decide +kernel) rfl), (in_tbl 25 (by decide +kernel) rfl), (in_tbl 436 (by decide +kernel) rfl), (in_tbl 435 (by decide +kernel) rfl), ⟨_, rfl, rfl⟩, by decide +kernel, by decide +kernel, by decide +kernel⟩
theorem lkX5_191 : LkV RX5 191 mX0_summed 3 0 := ⟨(in_tbl 447 (by decide +kernel) rfl), (in_tbl 448 (by decide +kernel) rfl), (in_tbl 25 (by decide +kernel) rfl), (in_tbl 450 (by decide +kernel) rfl), (in_tbl 449 (by decide +kernel) rfl), ⟨_, rfl, rfl⟩, by decide +kernel, by decide +kernel, by decide +kernel⟩
theorem lkX5_195 : LkV RX5 195 mX0_throughValues 3 0 := ⟨(in_tbl 463 (by decide +kernel) rfl), (in_tbl 464 (by decide +kernel) rfl), (in_tbl 25 (by decide +kernel) rfl), (in_tbl 466 (by decide +kernel) rfl), (in_tbl 465 (by decide +kernel) rfl), ⟨_, rfl, rfl⟩, by decide +kernel, by decide +kernel, by decide +kernel⟩
theorem lkX5_199 : LkV RX5 199 mX3_degree 0 2 := ⟨(in_tbl 472 (by decide +kernel) rfl), (in_tbl 473 (by decide +kernel) rfl), (in_tbl 26 (by decide +kernel) rfl), (in_tbl 475 (by decide +kernel) rfl), (in_tbl 474 (by decide +kernel) rfl), ⟨_, rfl, rfl⟩, by decide +kernel, by decide +kernel, by decide +kernel⟩
theorem lkX5_203 : LkV RX5 203 mX0_differenceAt 3 0 := ⟨(in_tbl 480 (by decide +kernel) rfl), (in_tbl 481 (by decide +kernel) rfl), (in_tbl 25 (by decide +kernel) rfl), (in_tbl 483 (by decide +kernel) rfl), (in_tbl 482 (by decide +kernel) rfl), ⟨_, rfl, rfl⟩, by decide +kernel, by decide +kernel, by decide +kernel⟩
theorem lkX5_206 : LkV RX5 206 mX0_oneByInto 3 0 := ⟨(in_tbl 496 (by decide +kernel) rfl), (in_tbl 389 (by decide +kernel) rfl), (in_tbl 25 (by decide +kernel) rfl), (in_tbl 391 (by decide +kernel) rfl), (in_tbl 390 (by decide +kernel) rfl), ⟨_, rfl, rfl⟩, by decide +kernel, by decide +kernel, by decide +kernel⟩
theorem lkX5_209 : LkV RX5 209 mX0_tBy 2 0 := ⟨(in_tbl 501 (by decide +kernel) rfl), (in_tbl 343 (by decide +kernel) rfl), (in_tbl 25 (by decide +kernel) rfl), (in_tbl 345 (by decide +kernel) rfl), (in_tbl 344 (by decide +kernel) rfl), ⟨_, rfl, rfl⟩, by decide +kernel, by decide +kernel, by decide +kernel⟩
theorem lkX5_212 : LkV RX5 212 mX5_sheetsKept 0 4 := ⟨(in_tbl 506 (by decide +kernel) rfl), (in_tbl 508 (by decide +kernel) rfl), (in_tbl 24 (by decide +kernel) rfl), (in_tbl 509 (by decide +kernel) rfl), (in_tbl 9 (by decide +kernel) rfl), ⟨_, rfl, rfl⟩, by decide +kernel, by decide +kernel, by decide +kernel⟩
theorem lkX5_215 : LkV RX5 215 mX5_laddersStanding 0 4 := ⟨(in_tbl 510 (by decide +kernel) rfl), (in_tbl 512 (by decide +kernel) rfl), (in_tbl 24 (by decide +kernel) rfl), (in_tbl 513 (by decide +kernel) rfl), (in_tbl 10 (by decide +kernel) rfl), ⟨_, rfl, rfl⟩, by decide +kernel, by decide +kernel, by decide +kernel⟩
theorem lkX5_222 : LkV RX5 222 mX3_mixedInto 1 2 := ⟨(in_tbl 520 (by decide +kernel) rfl), (in_tbl 521 (by decide +kernel) rfl), (in_tbl 26 (by decide +kernel) rfl), (in_tbl 523 (by decide +kernel) rfl), (in_tbl 522 (by decide +kernel) rfl), ⟨_, rfl, rfl⟩, by decide +kernel, by decide +kernel, by decide +kernel⟩
theorem lkX6_58 : LkS RX6 58 mX6_toThe 2 := ⟨(in_tbl 632 (by decide +kernel) rfl), (in_tbl 633 (by decide +kernel) rfl), (in_tbl 31 (by decide +kernel) rfl), (in_tbl 634 (by decide +kernel) rfl), by decide +kernel, by decide +kernel, by decide +kernel⟩
theorem lkX6_62 : LkS RX6 62 mX6_mod 1 := ⟨(in_tbl 624 (by decide +kernel) rfl), (in_tbl 625 (by decide +kernel) rfl), (in_tbl 31 (by decide +kernel) rfl), (in_tbl 626 (by decide +kernel) rfl), by decide +kernel, by decide +kernel, by decide +kernel⟩
theorem lkX6_70 : LkS RX6 70 mX6_in 3 := ⟨(in_tbl 588 (by decide +kernel) rfl), (in_tbl 589 (by decide +kernel) rfl), (in_tbl 31 (by decide +kernel) rfl), (in_tbl 590 (by decide +kernel) rfl), by decide +kernel, by decide +kernel, by decide +kernel⟩
theorem lkX6_74 : LkS RX6 74 mX6_isSheet 1 := ⟨(in_tbl 585 (by decide +kernel) rfl), (in_tbl 586 (by decide +kernel) rfl), (in_tbl 31 (by decide +kernel) rfl), (in_tbl 587 (by decide +kernel) rfl), by decide +kernel, by decide +kernel, by decide +kernel⟩
theorem lkX6_78 : LkV RX6 78 mX6_meets 1 5 := ⟨(in_tbl 591 (by decide +kernel) rfl), (in_tbl 593 (by decide +kernel) rfl), (in_tbl 31 (by decide +kernel) rfl), (in_tbl 594 (by decide +kernel) rfl), (in_tbl 11 (by decide +kernel) rfl), ⟨_, rfl, rfl⟩, by decide +kernel, by decide +kernel, by decide +kernel⟩
theorem lkX6_82 : LkV RX6 82 mX6_lacks 3 5 := ⟨(in_tbl 603 (by decide +kernel) rfl), (in_tbl 605 (by decide +kernel) rfl), (in_tbl 31 (by decide +kernel) rfl), (in_tbl 606 (by decide +kernel) rfl), (in_tbl 12 (by decide +kernel) rfl), ⟨_, rfl, rfl⟩, by decide +kernel, by decide +kernel, by decide +kernel⟩
theorem lkX6_87 : LkS RX6 87 mX6_turnedNumber 1 := ⟨(in_tbl 638 (by decide +kernel) rfl), (in_tbl 639 (by decide +kernel) rfl), (in_tbl 31 (by decide +kernel) rfl), (in_tbl 640 (by decide +kernel) rfl), by decide +kernel, by decide +kernel, by decide +kernel⟩
theorem lkX6_90 : LkS RX6 90 mX6_one 1 := ⟨(in_tbl 672 (by decide +kernel) rfl), (in_tbl 673 (by decide +kernel) rfl), (in_tbl 31 (by decide +kernel) rfl), (in_tbl 674 (by decide +kernel) rfl), by decide +kernel, by decide +kernel, by decide +kernel⟩
theorem lkX6_94 : LkS RX6 94 mX6_times 3 := ⟨(in_tbl 654 (by decide +kernel) rfl), (in_tbl 655 (by decide +kernel) rfl), (in_tbl 31 (by decide +kernel) rfl), (in_tbl 656 (by decide +kernel) rfl), by decide +kernel, by decide +kernel, by decide +kernel⟩
theorem lkX6_98 : LkS RX6 98 mX6_set 2 := ⟨(in_tbl 675 (by decide +kernel) rfl), (in_tbl 676 (by decide +kernel) rfl), (in_tbl 31 (by decide +kernel) rfl), (in_tbl 677 (by decide +kernel) rfl), by decide +kernel, by decide +kernel, by decide +kernel⟩
theorem lkX6_102 : LkV RX6 102 mX6_puts 3 5 := ⟨(in_tbl 668 (by decide +kernel) rfl), (in_tbl 670 (by decide +kernel) rfl), (in_tbl 31 (by decide +kernel) rfl), (in_tbl 671 (by decide +kernel) rfl), (in_tbl 16 (by decide +kernel) rfl), ⟨_, rfl, rfl⟩, by decide +kernel, by decide +kernel, by decide +kernel⟩
theorem lkX6_105 : LkV RX6 105 mX6_read 2 5 := ⟨(in_tbl 620 (by decide +kernel) rfl), (in_tbl 622 (by decide +kernel) rfl), (in_tbl 31 (by decide +kernel) rfl), (in_tbl 623 (by decide +kernel) rfl), (in_tbl 13 (by decide +kernel) rfl), ⟨_, rfl, rfl⟩, by decide +kernel, by decide +kernel, by decide +kernel⟩
theorem lkX6_109 : LkS RX6 109 mX6_factorial 1 := ⟨(in_tbl 635 (by decide +kernel) rfl), (in_tbl 636 (by decide +kernel) rfl), (in_tbl 31 (by decide +kernel) rfl), (in_tbl 637 (by decide +kernel) rfl), by decide +kernel, by decide +kernel, by decide +kernel⟩
theorem lkX6_114 : LkV RX6 114 mX6_tells 2 5 := ⟨(in_tbl 642 (by decide +kernel) rfl), (in_tbl 644 (by decide +kernel) rfl), (in_tbl 31 (by decide +kernel) rfl), (in_tbl 645 (by decide +kernel) rfl), (in_tbl 14 (by decide +kernel) rfl), ⟨_, rfl, rfl⟩, by decide +kernel, by decide +kernel, by decide +kernel⟩
theorem lkX6_118 : LkV RX6 118 mX6_isLost 1 5 := ⟨(in_tbl 650 (by decide +kernel) rfl), (in_tbl 652 (by decide +kernel) rfl), (in_tbl 31 (by decide +kernel) rfl), (in_tbl 653 (by decide +kernel) rfl), (in_tbl 15 (by decide +kernel) rfl), ⟨_, rfl, rfl⟩, by decide +kernel, by decide +kernel, by decide +kernel⟩
theorem lkX6_121 : LkS RX6 121 mX6_by 3 := ⟨(in_tbl 661 (by decide +kernel) rfl), (in_tbl 662 (by decide +kernel) rfl), (in_tbl 31 (by decide +kernel) rfl), (in_tbl 663 (by decide +kernel) rfl), by decide +kernel, by decide +kernel, by decide +kernel⟩
theorem lkX6_124 : LkS RX6 124 mX6_canTurn 1 := ⟨(in_tbl 682 (by decide +kernel) rfl), (in_tbl 683 (by decide +kernel) rfl), (in_tbl 31 (by decide +kernel) rfl), (in_tbl 684 (by decide +kernel) rfl), by decide +kernel, by decide +kernel, by decide +kernel⟩
theorem lkX6_128 : LkV RX6 128 mX6_turns 2 5 := ⟨(in_tbl 685 (by decide +kernel) rfl), (in_tbl 687 (by decide +kernel) rfl), (in_tbl 31 (by decide +kernel) rfl), (in_tbl 688 (by decide +kernel) rfl), (in_tbl 17 (by decide +kernel) rfl), ⟨_, rfl, rfl⟩, by decide +kernel, by decide +kernel, by decide +kernel⟩
theorem lkX6_131 : LkS RX6 131 mX6_valueOf 2 := ⟨(in_tbl 697 (by decide +kernel) rfl), (in_tbl 698 (by decide +kernel) rfl), (in_tbl 31 (by decide +kernel) rfl), (in_tbl 699 (by decide +kernel) rfl), by decide +kernel, by decide +kernel, by decide +kernel⟩
theorem lkX6_134 : LkS RX6 134 mX6_works 3 := ⟨(in_tbl 704 (by decide +kernel) rfl), (in_tbl 705 (by decide +kernel) rfl), (in_tbl 31 (by decide +kernel) rfl), (in_tbl 706 (by decide +kernel) rfl), by decide +kernel, by decide +kernel, by decide +kernel⟩
theorem lkX6_137 : LkV RX6 137 mX6_canLadder 0 5 := ⟨(in_tbl 711 (by decide +kernel) rfl), (in_tbl 713 (by decide +kernel) rfl), (in_tbl 31 (by decide +kernel) rfl), (in_tbl 714 (by decide +kernel) rfl), (in_tbl 18 (by decide +kernel) rfl), ⟨_, rfl, rfl⟩, by decide +kernel, by decide +kernel, by decide +kernel⟩
theorem lkX6_141 : LkS RX6 141 mX6_isRung 2 := ⟨(in_tbl 719 (by decide +kernel) rfl), (in_tbl 720 (by decide +kernel) rfl), (in_tbl 31 (by decide +kernel) rfl), (in_tbl 721 (by decide +kernel) rfl), by decide +kernel, by decide +kernel, by decide +kernel⟩
theorem lkX6_145 : LkV RX6 145 mX6_rung 3 5 := ⟨(in_tbl 726 (by decide +kernel) rfl), (in_tbl 728 (by decide +kernel) rfl), (in_tbl 31 (by decide +kernel) rfl), (in_tbl 729 (by decide +kernel) rfl), (in_tbl 19 (by decide +kernel) rfl), ⟨_, rfl, rfl⟩, by decide +kernel, by decide +kernel, by decide +kernel⟩
theorem lkX6_149 : LkS RX6 149 mX6_choose 2 := ⟨(in_tbl 750 (by decide +kernel) rfl), (in_tbl 751 (by decide +kernel) rfl), (in_tbl 31 (by decide +kernel) rfl), (in_tbl 752 (by decide +kernel) rfl), by decide +kernel, by decide +kernel, by decide +kernel⟩
theorem lkX6_152 : LkV RX6 152 mX6_stepAt 3 5 := ⟨(in_tbl 753 (by decide +kernel) rfl), (in_tbl 755 (by decide +kernel) rfl), (in_tbl 31 (by decide +kernel) rfl), (in_tbl 756 (by decide +kernel) rfl), (in_tbl 21 (by decide +kernel) rfl), ⟨_, rfl, rfl⟩, by decide +kernel, by decide +kernel, by decide +kernel⟩
theorem lkX6_155 : LkV RX6 155 mX6_isBinomial 2 5 := ⟨(in_tbl 746 (by decide +kernel) rfl), (in_tbl 748 (by decide +kernel) rfl), (in_tbl 31 (by decide +kernel) rfl), (in_tbl 749 (by decide +kernel) rfl), (in_tbl 20 (by decide +kernel) rfl), ⟨_, rfl, rfl⟩, by decide +kernel, by decide +kernel, by decide +kernel⟩
theorem lkX6_159 : LkV RX6 159 mX6_differs 2 5 := ⟨(in_tbl 762 (by decide +kernel) rfl), (in_tbl 764 (by decide +kernel) rfl), (in_tbl 31 (by decide +kernel) rfl), (in_tbl 765 (by decide +kernel) rfl), (in_tbl 22 (by decide +kernel) rfl), ⟨_, rfl, rfl⟩, by decide +kernel, by decide +kernel, by decide +kernel⟩
theorem lkX6_166 : LkV RX6 166 mX6_count 1 5 := ⟨(in_tbl 800 (by decide +kernel) rfl), (in_tbl 791 (by decide +kernel) rfl), (in_tbl 31 (by decide +kernel) rfl), (in_tbl 793 (by decide +kernel) rfl), (in_tbl 792 (by decide +kernel) rfl), ⟨_, rfl, rfl⟩, by decide +kernel, by decide +kernel, by decide +kernel⟩
theorem flX0_9 : Fl RX0 9 0 0 := ⟨_, rfl, by decide, (in_tbl 77 (by decide +kernel) rfl)⟩
theorem ffX0_9 : Ff RX0 9 0 0 (.array .int) := ⟨_, rfl, by decide, (in_tbl 77 (by decide +kernel) rfl), rfl, rfl, by decide +kernel⟩
theorem flX0_15 : Fl RX0 15 0 1 := ⟨_, rfl, by decide, (in_tbl 78 (by decide +kernel) rfl)⟩
theorem ffX0_15 : Ff RX0 15 0 1 (.array .int) := ⟨_, rfl, by decide, (in_tbl 78 (by decide +kernel) rfl), rfl, rfl, by decide +kernel⟩
theorem flX0_18 : Fl RX0 18 0 2 := ⟨_, rfl, by decide, (in_tbl 79 (by decide +kernel) rfl)⟩
theorem ffX0_18 : Ff RX0 18 0 2 (.array .int) := ⟨_, rfl, by decide, (in_tbl 79 (by decide +kernel) rfl), rfl, rfl, by decide +kernel⟩
theorem flX0_23 : Fl RX0 23 0 3 := ⟨_, rfl, by decide, (in_tbl 80 (by decide +kernel) rfl)⟩
theorem ffX0_23 : Ff RX0 23 0 3 (.array (.array .int)) := ⟨_, rfl, by decide, (in_tbl 80 (by decide +kernel) rfl), rfl, rfl, by decide +kernel⟩
theorem flX0_26 : Fl RX0 26 0 4 := ⟨_, rfl, by decide, (in_tbl 81 (by decide +kernel) rfl)⟩
theorem ffX0_26 : Ff RX0 26 0 4 (.array (.array .int)) := ⟨_, rfl, by decide, (in_tbl 81 (by decide +kernel) rfl), rfl, rfl, by decide +kernel⟩
theorem flX0_29 : Fl RX0 29 0 5 := ⟨_, rfl, by decide, (in_tbl 82 (by decide +kernel) rfl)⟩
theorem ffX0_29 : Ff RX0 29 0 5 (.array .int) := ⟨_, rfl, by decide, (in_tbl 82 (by decide +kernel) rfl), rfl, rfl, by decide +kernel⟩
theorem flX0_35 : Fl RX0 35 0 6 := ⟨_, rfl, by decide, (in_tbl 83 (by decide +kernel) rfl)⟩
theorem ffX0_35 : Ff RX0 35 0 6 (.object "DeltaLadders$Series") := ⟨_, rfl, by decide, (in_tbl 83 (by decide +kernel) rfl), rfl, rfl, by decide +kernel⟩
theorem flX0_39 : Fl RX0 39 0 7 := ⟨_, rfl, by decide, (in_tbl 84 (by decide +kernel) rfl)⟩
theorem ffX0_39 : Ff RX0 39 0 7 (.object "DeltaLadders$Series") := ⟨_, rfl, by decide, (in_tbl 84 (by decide +kernel) rfl), rfl, rfl, by decide +kernel⟩
theorem flX0_42 : Fl RX0 42 0 8 := ⟨_, rfl, by decide, (in_tbl 85 (by decide +kernel) rfl)⟩
theorem ffX0_42 : Ff RX0 42 0 8 (.object "DeltaLadders$Series") := ⟨_, rfl, by decide, (in_tbl 85 (by decide +kernel) rfl), rfl, rfl, by decide +kernel⟩
theorem flX0_45 : Fl RX0 45 0 9 := ⟨_, rfl, by decide, (in_tbl 86 (by decide +kernel) rfl)⟩
theorem ffX0_45 : Ff RX0 45 0 9 (.object "DeltaLadders$Series") := ⟨_, rfl, by decide, (in_tbl 86 (by decide +kernel) rfl), rfl, rfl, by decide +kernel⟩
theorem flX0_48 : Fl RX0 48 0 10 := ⟨_, rfl, by decide, (in_tbl 87 (by decide +kernel) rfl)⟩
theorem ffX0_48 : Ff RX0 48 0 10 (.object "DeltaLadders$Series") := ⟨_, rfl, by decide, (in_tbl 87 (by decide +kernel) rfl), rfl, rfl, by decide +kernel⟩
theorem flX0_61 : Fl RX0 61 2 0 := ⟨_, rfl, by decide, (in_tbl 61 (by decide +kernel) rfl)⟩
theorem flX0_104 : Fl RX0 104 1 0 := ⟨_, rfl, by decide, (in_tbl 144 (by decide +kernel) rfl)⟩
theorem flX0_110 : Fl RX0 110 1 1 := ⟨_, rfl, by decide, (in_tbl 147 (by decide +kernel) rfl)⟩
theorem fpX0_110 : Fp RX0 110 1 1 .boolean := ⟨_, rfl, by decide, (in_tbl 147 (by decide +kernel) rfl), rfl, by decide +kernel⟩
theorem flX1_11 : Fl RX1 11 1 0 := ⟨_, rfl, by decide, (in_tbl 143 (by decide +kernel) rfl)⟩
theorem ffX1_11 : Ff RX1 11 1 0 (.array (.object "DeltaLadders$Series")) := ⟨_, rfl, by decide, (in_tbl 143 (by decide +kernel) rfl), rfl, rfl, by decide +kernel⟩
theorem flX1_17 : Fl RX1 17 1 1 := ⟨_, rfl, by decide, (in_tbl 146 (by decide +kernel) rfl)⟩
theorem fpX1_17 : Fp RX1 17 1 1 .boolean := ⟨_, rfl, by decide, (in_tbl 146 (by decide +kernel) rfl), rfl, by decide +kernel⟩
theorem flX3_9 : Fl RX3 9 2 0 := ⟨_, rfl, by decide, (in_tbl 60 (by decide +kernel) rfl)⟩
theorem ffX3_9 : Ff RX3 9 2 0 (.array .int) := ⟨_, rfl, by decide, (in_tbl 60 (by decide +kernel) rfl), rfl, rfl, by decide +kernel⟩
theorem flX4_9 : Fl RX4 9 3 0 := ⟨_, rfl, by decide, (in_tbl 118 (by decide +kernel) rfl)⟩
theorem ffX4_9 : Ff RX4 9 3 0 (.array .int) := ⟨_, rfl, by decide, (in_tbl 118 (by decide +kernel) rfl), rfl, rfl, by decide +kernel⟩
theorem flX4_15 : Fl RX4 15 3 1 := ⟨_, rfl, by decide, (in_tbl 120 (by decide +kernel) rfl)⟩
theorem fpX4_15 : Fp RX4 15 3 1 .boolean := ⟨_, rfl, by decide, (in_tbl 120 (by decide +kernel) rfl), rfl, by decide +kernel⟩
theorem flX4_19 : Fl RX4 19 3 2 := ⟨_, rfl, by decide, (in_tbl 122 (by decide +kernel) rfl)⟩
theorem fpX4_19 : Fp RX4 19 3 2 .int := ⟨_, rfl, by decide, (in_tbl 122 (by decide +kernel) rfl), rfl, by decide +kernel⟩
theorem flX4_23 : Fl RX4 23 3 3 := ⟨_, rfl, by decide, (in_tbl 124 (by decide +kernel) rfl)⟩
theorem fpX4_23 : Fp RX4 23 3 3 .int := ⟨_, rfl, by decide, (in_tbl 124 (by decide +kernel) rfl), rfl, by decide +kernel⟩
theorem flX5_11 : Fl RX5 11 4 0 := ⟨_, rfl, by decide, (in_tbl 154 (by decide +kernel) rfl)⟩
theorem ffX5_11 : Ff RX5 11 4 0 (.array (.object "DeltaLadders$Sheet")) := ⟨_, rfl, by decide, (in_tbl 154 (by decide +kernel) rfl), rfl, rfl, by decide +kernel⟩
theorem flX5_17 : Fl RX5 17 4 1 := ⟨_, rfl, by decide, (in_tbl 155 (by decide +kernel) rfl)⟩
theorem ffX5_17 : Ff RX5 17 4 1 (.array (.object "DeltaLadders$Ladder")) := ⟨_, rfl, by decide, (in_tbl 155 (by decide +kernel) rfl), rfl, rfl, by decide +kernel⟩
theorem flX5_24 : Fl RX5 24 4 2 := ⟨_, rfl, by decide, (in_tbl 156 (by decide +kernel) rfl)⟩
theorem ffX5_24 : Ff RX5 24 4 2 (.object "DeltaLadders$Algebra") := ⟨_, rfl, by decide, (in_tbl 156 (by decide +kernel) rfl), rfl, rfl, by decide +kernel⟩
theorem flX5_31 : Fl RX5 31 4 3 := ⟨_, rfl, by decide, (in_tbl 157 (by decide +kernel) rfl)⟩
theorem ffX5_31 : Ff RX5 31 4 3 (.object "DeltaLadders$Series") := ⟨_, rfl, by decide, (in_tbl 157 (by decide +kernel) rfl), rfl, rfl, by decide +kernel⟩
theorem flX5_35 : Fl RX5 35 4 4 := ⟨_, rfl, by decide, (in_tbl 158 (by decide +kernel) rfl)⟩
theorem ffX5_35 : Ff RX5 35 4 4 (.object "DeltaLadders$Series") := ⟨_, rfl, by decide, (in_tbl 158 (by decide +kernel) rfl), rfl, rfl, by decide +kernel⟩
theorem flX5_38 : Fl RX5 38 4 5 := ⟨_, rfl, by decide, (in_tbl 159 (by decide +kernel) rfl)⟩
theorem ffX5_38 : Ff RX5 38 4 5 (.object "DeltaLadders$Series") := ⟨_, rfl, by decide, (in_tbl 159 (by decide +kernel) rfl), rfl, rfl, by decide +kernel⟩
theorem flX5_41 : Fl RX5 41 4 6 := ⟨_, rfl, by decide, (in_tbl 160 (by decide +kernel) rfl)⟩
theorem ffX5_41 : Ff RX5 41 4 6 (.object "DeltaLadders$Series") := ⟨_, rfl, by decide, (in_tbl 160 (by decide +kernel) rfl), rfl, rfl, by decide +kernel⟩
theorem flX5_44 : Fl RX5 44 4 7 := ⟨_, rfl, by decide, (in_tbl 161 (by decide +kernel) rfl)⟩
theorem ffX5_44 : Ff RX5 44 4 7 (.object "DeltaLadders$Series") := ⟨_, rfl, by decide, (in_tbl 161 (by decide +kernel) rfl), rfl, rfl, by decide +kernel⟩
theorem flX5_47 : Fl RX5 47 4 8 := ⟨_, rfl, by decide, (in_tbl 162 (by decide +kernel) rfl)⟩
theorem ffX5_47 : Ff RX5 47 4 8 (.object "DeltaLadders$Series") := ⟨_, rfl, by decide, (in_tbl 162 (by decide +kernel) rfl), rfl, rfl, by decide +kernel⟩
theorem flX5_50 : Fl RX5 50 4 9 := ⟨_, rfl, by decide, (in_tbl 163 (by decide +kernel) rfl)⟩
theorem fpX5_50 : Fp RX5 50 4 9 .int := ⟨_, rfl, by decide, (in_tbl 163 (by decide +kernel) rfl), rfl, by decide +kernel⟩
theorem flX5_71 : Fl RX5 71 3 1 := ⟨_, rfl, by decide, (in_tbl 121 (by decide +kernel) rfl)⟩
theorem fpX5_71 : Fp RX5 71 3 1 .boolean := ⟨_, rfl, by decide, (in_tbl 121 (by decide +kernel) rfl), rfl, by decide +kernel⟩
theorem flX5_75 : Fl RX5 75 3 3 := ⟨_, rfl, by decide, (in_tbl 125 (by decide +kernel) rfl)⟩
theorem fpX5_75 : Fp RX5 75 3 3 .int := ⟨_, rfl, by decide, (in_tbl 125 (by decide +kernel) rfl), rfl, by decide +kernel⟩
theorem flX5_82 : Fl RX5 82 3 0 := ⟨_, rfl, by decide, (in_tbl 119 (by decide +kernel) rfl)⟩
theorem flX5_90 : Fl RX5 90 3 2 := ⟨_, rfl, by decide, (in_tbl 123 (by decide +kernel) rfl)⟩
theorem fpX5_90 : Fp RX5 90 3 2 .int := ⟨_, rfl, by decide, (in_tbl 123 (by decide +kernel) rfl), rfl, by decide +kernel⟩
theorem flX5_168 : Fl RX5 168 1 1 := ⟨_, rfl, by decide, (in_tbl 148 (by decide +kernel) rfl)⟩
theorem fpX5_168 : Fp RX5 168 1 1 .boolean := ⟨_, rfl, by decide, (in_tbl 148 (by decide +kernel) rfl), rfl, by decide +kernel⟩
theorem flX5_171 : Fl RX5 171 1 0 := ⟨_, rfl, by decide, (in_tbl 145 (by decide +kernel) rfl)⟩
theorem flX5_175 : Fl RX5 175 2 0 := ⟨_, rfl, by decide, (in_tbl 62 (by decide +kernel) rfl)⟩
theorem flX6_7 : Fl RX6 7 5 0 := ⟨_, rfl, by decide, (in_tbl 531 (by decide +kernel) rfl)⟩
theorem ffX6_7 : Ff RX6 7 5 0 (.array .boolean) := ⟨_, rfl, by decide, (in_tbl 531 (by decide +kernel) rfl), rfl, rfl, by decide +kernel⟩
theorem flX6_13 : Fl RX6 13 5 1 := ⟨_, rfl, by decide, (in_tbl 532 (by decide +kernel) rfl)⟩
theorem ffX6_13 : Ff RX6 13 5 1 (.array .int) := ⟨_, rfl, by decide, (in_tbl 532 (by decide +kernel) rfl), rfl, rfl, by decide +kernel⟩
theorem flX6_17 : Fl RX6 17 5 2 := ⟨_, rfl, by decide, (in_tbl 533 (by decide +kernel) rfl)⟩
theorem ffX6_17 : Ff RX6 17 5 2 (.array .int) := ⟨_, rfl, by decide, (in_tbl 533 (by decide +kernel) rfl), rfl, rfl, by decide +kernel⟩
theorem flX6_20 : Fl RX6 20 5 3 := ⟨_, rfl, by decide, (in_tbl 534 (by decide +kernel) rfl)⟩
theorem ffX6_20 : Ff RX6 20 5 3 (.array .int) := ⟨_, rfl, by decide, (in_tbl 534 (by decide +kernel) rfl), rfl, rfl, by decide +kernel⟩
theorem flX6_23 : Fl RX6 23 5 4 := ⟨_, rfl, by decide, (in_tbl 535 (by decide +kernel) rfl)⟩
theorem ffX6_23 : Ff RX6 23 5 4 (.array .int) := ⟨_, rfl, by decide, (in_tbl 535 (by decide +kernel) rfl), rfl, rfl, by decide +kernel⟩
theorem flX6_26 : Fl RX6 26 5 6 := ⟨_, rfl, by decide, (in_tbl 537 (by decide +kernel) rfl)⟩
theorem ffX6_26 : Ff RX6 26 5 6 (.array .int) := ⟨_, rfl, by decide, (in_tbl 537 (by decide +kernel) rfl), rfl, rfl, by decide +kernel⟩
theorem flX6_29 : Fl RX6 29 5 7 := ⟨_, rfl, by decide, (in_tbl 538 (by decide +kernel) rfl)⟩
theorem ffX6_29 : Ff RX6 29 5 7 (.array .int) := ⟨_, rfl, by decide, (in_tbl 538 (by decide +kernel) rfl), rfl, rfl, by decide +kernel⟩
theorem flX6_32 : Fl RX6 32 5 8 := ⟨_, rfl, by decide, (in_tbl 539 (by decide +kernel) rfl)⟩
theorem ffX6_32 : Ff RX6 32 5 8 (.array .int) := ⟨_, rfl, by decide, (in_tbl 539 (by decide +kernel) rfl), rfl, rfl, by decide +kernel⟩
theorem flX6_35 : Fl RX6 35 5 9 := ⟨_, rfl, by decide, (in_tbl 540 (by decide +kernel) rfl)⟩
theorem ffX6_35 : Ff RX6 35 5 9 (.array .int) := ⟨_, rfl, by decide, (in_tbl 540 (by decide +kernel) rfl), rfl, rfl, by decide +kernel⟩
theorem flX6_38 : Fl RX6 38 5 10 := ⟨_, rfl, by decide, (in_tbl 541 (by decide +kernel) rfl)⟩
theorem ffX6_38 : Ff RX6 38 5 10 (.array .int) := ⟨_, rfl, by decide, (in_tbl 541 (by decide +kernel) rfl), rfl, rfl, by decide +kernel⟩
theorem flX6_41 : Fl RX6 41 5 11 := ⟨_, rfl, by decide, (in_tbl 542 (by decide +kernel) rfl)⟩
theorem ffX6_41 : Ff RX6 41 5 11 (.array .int) := ⟨_, rfl, by decide, (in_tbl 542 (by decide +kernel) rfl), rfl, rfl, by decide +kernel⟩
theorem flX6_44 : Fl RX6 44 5 12 := ⟨_, rfl, by decide, (in_tbl 543 (by decide +kernel) rfl)⟩
theorem ffX6_44 : Ff RX6 44 5 12 (.array .int) := ⟨_, rfl, by decide, (in_tbl 543 (by decide +kernel) rfl), rfl, rfl, by decide +kernel⟩
theorem flX6_47 : Fl RX6 47 5 13 := ⟨_, rfl, by decide, (in_tbl 544 (by decide +kernel) rfl)⟩
theorem ffX6_47 : Ff RX6 47 5 13 (.array .int) := ⟨_, rfl, by decide, (in_tbl 544 (by decide +kernel) rfl), rfl, rfl, by decide +kernel⟩
theorem flX6_50 : Fl RX6 50 5 14 := ⟨_, rfl, by decide, (in_tbl 545 (by decide +kernel) rfl)⟩
theorem ffX6_50 : Ff RX6 50 5 14 (.array .boolean) := ⟨_, rfl, by decide, (in_tbl 545 (by decide +kernel) rfl), rfl, rfl, by decide +kernel⟩
theorem flX6_53 : Fl RX6 53 5 15 := ⟨_, rfl, by decide, (in_tbl 546 (by decide +kernel) rfl)⟩
theorem ffX6_53 : Ff RX6 53 5 15 (.array .int) := ⟨_, rfl, by decide, (in_tbl 546 (by decide +kernel) rfl), rfl, rfl, by decide +kernel⟩
theorem flX6_66 : Fl RX6 66 5 5 := ⟨_, rfl, by decide, (in_tbl 536 (by decide +kernel) rfl)⟩
theorem fpX6_66 : Fp RX6 66 5 5 .int := ⟨_, rfl, by decide, (in_tbl 536 (by decide +kernel) rfl), rfl, by decide +kernel⟩
theorem ctX3_44 : Cond.constantLong RX3 44 (31) ∈ tblG := (in_tbl 524 (by decide +kernel) rfl)
theorem ctX5_89 : Cond.constant RX5 89 (-2147483648) ∈ tblG := (in_tbl 223 (by decide +kernel) rfl)
theorem ctX5_190 : Cond.constant RX5 190 (2000000000) ∈ tblG := (in_tbl 446 (by decide +kernel) rfl)
theorem ctX5_218 : Cond.constantLong RX5 218 (17) ∈ tblG := (in_tbl 518 (by decide +kernel) rfl)
theorem ctX5_220 : Cond.constantLong RX5 220 (31) ∈ tblG := (in_tbl 519 (by decide +kernel) rfl)
theorem ctX6_56 : Cond.constantLong RX6 56 (10007) ∈ tblG := (in_tbl 627 (by decide +kernel) rfl)
theorem ctX6_86 : Cond.constant RX6 86 (-2147483648) ∈ tblG := (in_tbl 611 (by decide +kernel) rfl)
theorem ctX6_112 : Cond.constantLong RX6 112 (-1) ∈ tblG := (in_tbl 641 (by decide +kernel) rfl)
theorem ctX6_158 : Cond.constant RX6 158 (2000000000) ∈ tblG := (in_tbl 761 (by decide +kernel) rfl)
theorem ctX6_162 : Cond.constantLong RX6 162 (17) ∈ tblG := (in_tbl 798 (by decide +kernel) rfl)
theorem ctX6_164 : Cond.constantLong RX6 164 (31) ∈ tblG := (in_tbl 799 (by decide +kernel) rfl)
