/-! the words of fields, written by wip/whole/gen.py -/
def iq_U : List Cond := lw_tbl.filter goodWord
theorem iq_mem {i : Nat} {w : Cond} (h : lw_tbl[i]? = some w) (g : goodWord w = true) : w ∈ iq_U := List.mem_filter.mpr ⟨List.mem_of_getElem? h, g⟩
theorem iq_mt1 {i : Nat} {w : Cond} (h : tables_1_1[i]? = some w) (g : goodWord w = true) : w ∈ iq_U := List.mem_filter.mpr ⟨List.mem_append_right _ (by unfold tables_1; simp only [List.mem_append]; exact Or.inl (List.mem_of_getElem? h)), g⟩
theorem iq_mt2 {i : Nat} {w : Cond} (h : tables_1_2[i]? = some w) (g : goodWord w = true) : w ∈ iq_U := List.mem_filter.mpr ⟨List.mem_append_right _ (by unfold tables_1; simp only [List.mem_append]; exact Or.inr (Or.inl (List.mem_of_getElem? h))), g⟩
theorem iq_mt3 {i : Nat} {w : Cond} (h : tables_1_3[i]? = some w) (g : goodWord w = true) : w ∈ iq_U := List.mem_filter.mpr ⟨List.mem_append_right _ (by unfold tables_1; simp only [List.mem_append]; exact Or.inr (Or.inr (Or.inl (List.mem_of_getElem? h)))), g⟩
theorem iq_mt4 {i : Nat} {w : Cond} (h : tables_1_4[i]? = some w) (g : goodWord w = true) : w ∈ iq_U := List.mem_filter.mpr ⟨List.mem_append_right _ (by unfold tables_1; simp only [List.mem_append]; exact Or.inr (Or.inr (Or.inr (Or.inl (List.mem_of_getElem? h))))), g⟩
theorem iq_mt5 {i : Nat} {w : Cond} (h : tables_1_5[i]? = some w) (g : goodWord w = true) : w ∈ iq_U := List.mem_filter.mpr ⟨List.mem_append_right _ (by unfold tables_1; simp only [List.mem_append]; exact Or.inr (Or.inr (Or.inr (Or.inr (Or.inl (List.mem_of_getElem? h)))))), g⟩
theorem iq_mt6 {i : Nat} {w : Cond} (h : tables_1_6[i]? = some w) (g : goodWord w = true) : w ∈ iq_U := List.mem_filter.mpr ⟨List.mem_append_right _ (by unfold tables_1; simp only [List.mem_append]; exact Or.inr (Or.inr (Or.inr (Or.inr (Or.inr (Or.inl (List.mem_of_getElem? h))))))), g⟩
theorem iq_mt7 {i : Nat} {w : Cond} (h : tables_1_7[i]? = some w) (g : goodWord w = true) : w ∈ iq_U := List.mem_filter.mpr ⟨List.mem_append_right _ (by unfold tables_1; simp only [List.mem_append]; exact Or.inr (Or.inr (Or.inr (Or.inr (Or.inr (Or.inr (Or.inl (List.mem_of_getElem? h)))))))), g⟩
theorem iq_mt8 {i : Nat} {w : Cond} (h : tables_1_8[i]? = some w) (g : goodWord w = true) : w ∈ iq_U := List.mem_filter.mpr ⟨List.mem_append_right _ (by unfold tables_1; simp only [List.mem_append]; exact Or.inr (Or.inr (Or.inr (Or.inr (Or.inr (Or.inr (Or.inr (Or.inl (List.mem_of_getElem? h))))))))), g⟩
theorem iq_mt9 {i : Nat} {w : Cond} (h : tables_1_9[i]? = some w) (g : goodWord w = true) : w ∈ iq_U := List.mem_filter.mpr ⟨List.mem_append_right _ (by unfold tables_1; simp only [List.mem_append]; exact Or.inr (Or.inr (Or.inr (Or.inr (Or.inr (Or.inr (Or.inr (Or.inr (Or.inl (List.mem_of_getElem? h)))))))))), g⟩
theorem iq_mt10 {i : Nat} {w : Cond} (h : tables_1_10[i]? = some w) (g : goodWord w = true) : w ∈ iq_U := List.mem_filter.mpr ⟨List.mem_append_right _ (by unfold tables_1; simp only [List.mem_append]; exact Or.inr (Or.inr (Or.inr (Or.inr (Or.inr (Or.inr (Or.inr (Or.inr (Or.inr (List.mem_of_getElem? h)))))))))), g⟩
def iq_nm : Nat → String
  | 0 => RX0
  | 1 => RX1
  | 2 => RX2
  | 3 => RX3
  | 4 => RX4
  | 5 => RX5
  | 6 => RX6
  | 7 => RX7
  | 8 => RX8
  | 9 => RX9
  | 10 => RX10
  | 11 => RL
  | 12 => RJ6
  | 13 => RJ9
  | 14 => RJ0
  | 15 => RJ1
  | 16 => RJ7
  | 17 => RJ3
  | _ => ""
def iq_y_c0 : List (MethodName) := [yX0_init, yX0_keep, yX0_forgetOldest, yX0_copyFrom, yX1_init, yX1_clear, yX1_copyFrom, yX1_putSaying, yX1_beginOf, yX1_lengthOf, yX1_wordAt, yX1_longest, yX1_timesIn, yX1_putIn, yX1_takeOut, yX1_nextDay]
def iq_y_c1 : List (MethodName) := [yX1_undoLast, yX1_witness, yX2_init, yX2_whatMayCome, yX2_daysFor, yX2_isFree, yX2_isLawful, yX2_fillValues, yX2_weigh, yX2_weightOf, yX2_lowestTerm, yX2_greatestDivisor, yX2_whoCan, yX2_likeliest, yX2_multiplyOdds, yX2_playSeason]
def iq_y_c2 : List (MethodName) := [yX2_nextSeed, yX2_draw, yX2_wordAtWeight, yX3_init, yX3_clear, yX3_copyFrom, yX3_putState, yX3_putWord, yX3_putLetter, yX3_putArc, yX3_putPrice, yX3_letterAt, yX3_lastLetter, yX3_lengthOf, yX3_kindOf, yX3_priceOf]
def iq_y_c3 : List (MethodName) := [yX3_leadsBy, yX3_leadsTo, yX3_someFollows, yX3_stateOf, yX3_stateFrom, yX4_init, yX4_allStates, yX4_lookBehind, yX4_allBehind, yX4_leadingInto, yX4_longestWithin, yX4_keptOpen, yX4_mustEnd, yX4_measureToEnds, yX4_distanceOf, yX4_soonestEnd]
def iq_y_c4 : List (MethodName) := [yX4_soonestWord, yX4_firstNearer, yX4_countWays, yX4_waysByOneMore, yX4_playOut, yX4_inTurn, yX4_winningWord, yX4_priceRows, yX4_cheapestBehind, yX4_leastCost, yX4_mostFor, yX4_longestFor, yX4_wordFor, yX4_firstFor, yX4_closingKinds, yX4_endless]
def iq_y_c5 : List (MethodName) := [yX4_deadEnds, yX4_reached, yX4_fewestWords, yX5_init, yX5_read, yX5_refuse, yX5_readLine, yX5_readState, yX5_readWord, yX5_isToldRow, yX5_isRowOf, yX5_readArc, yX5_readCost, yX5_readSaying, yX5_isWordOfSaying, yX5_readHabit]
def iq_y_c6 : List (MethodName) := [yX5_readLaw, yX5_readRule, yX5_readExpr, yX5_canBeginExpr, yX5_readAnd, yX5_readNot, yX5_readTest, yX5_readSum, yX5_readProduct, yX5_readPart, yX5_valueNamed, yX5_passLineEnd, yX5_isNumberTo, yX5_isToldNumber, yX6_init, yX6_countBroken]
def iq_y_c7 : List (MethodName) := [yX6_whereBegun, yX6_fewestChanges, yX6_nearestTwo, yX6_countFlies, yX6_firstFly, yX6_wouldHeal, yX6_fewestToMend, yX6_fewestAt, yX6_fewestBy, yX6_fewestFrom, yX6_mendedWord, yX6_firstMending, yX6_longestShared, yX6_whereShared, yX6_findShared, yX7_init]
def iq_y_c8 : List (MethodName) := [yX7_clear, yX7_copyFrom, yX7_begin, yX7_end, yX7_step, yX7_stepOfValue, yX7_give, yX7_valueOf, yX7_join, yX8_init, yX8_begin, yX8_next, yX8_size, yX8_isSign, yX8_isWord, yX8_letterNumber]
def iq_y_c9 : List (MethodName) := [yX8_number, yX8_isBlank, yX8_isLetter, yX8_isDigit, yX9_init, yX9_feed, yX9_museum, yX9_fault, yX9_count, yX9_letter, yX9_kind, yX9_arc, yX9_saying, yX9_may, yX9_add, yX9_fly]
def iq_y_c10 : List (MethodName) := [yX9_take, yX9_day, yX9_undo, yX9_open, yX9_soonest, yX9_must, yX9_ways, yX9_turn, yX9_costs, yX9_closed, yX9_odds, yX9_see, yX9_forget, yX9_who, yX9_begun, yX9_alike]
def iq_y_c11 : List (MethodName) := [yX9_nearest, yX9_culprit, yX9_season, yX9_crimes, yX9_doors, yX9_far, yX9_days, yX9_mend, yX9_shared, yX9_about, yX9_often, yX9_cost, yX9_image, yX9_restore, yX9_tapeNumber, yX9_refuseAct]
def iq_y_c12 : List (MethodName) := [yX9_needState, yX9_needWord, yX9_needKind, yX9_needSaying, yX9_needPlace, yX9_needNoneOrMore, yX9_needOneOfTwo, yX10_init, yX10_thrown, yX10_right, yX10_within, yX10_copies, yX10_bits, yX10_feed, yX10_lays, yX10_byteAt]
def iq_y_c13 : List (MethodName) := [yX10_isLetter, yX10_isDigit, yX10_goes, yX10_spelled, yX10_letters, yX10_knownWord, yX10_wrong, yX10_isGood, yX10_isSign, yX10_need, yX10_numberHere, yX10_number, yX10_oneHere, yX10_one, yX10_puts, yX10_isOpen]
def iq_y_c14 : List (MethodName) := [yX10_strength, yX10_drops, yX10_waitsFor, yX10_part, yX10_deeper, yX10_operand, yX10_isOpened, yX10_closes, yX10_expression, yX10_isRowOf, yX10_readsWord, yX10_readsArc, yX10_readsSaying, yX10_line, yX10_museum, yX10_fault]
def iq_y_c15 : List (MethodName) := [yX10_keeps, yX10_refuses, yX10_undo, yX10_wordAt, yX10_leads, yX10_stateOf, yX10_stateNow, yX10_longestOf, yX10_broken, yX10_count, yX10_isState, yX10_isWord, yX10_isSaying, yX10_isWhat, yX10_letter, yX10_kind]
def iq_y_c16 : List (MethodName) := [yX10_arc, yX10_saying, yX10_works, yX10_reckons, yX10_lastLetter, yX10_rule, yX10_canFollow, yX10_mayCome, yX10_may, yX10_puts0, yX10_add, yX10_fly, yX10_take, yX10_day, yX10_isArc, yX10_onward]
def iq_y_c17 : List (MethodName) := [yX10_follows, yX10_open, yX10_measures, yX10_soonest, yX10_must, yX10_ways, yX10_plays, yX10_turn, yX10_costs, yX10_closed, yX10_weight, yX10_weights, yX10_portion, yX10_oddsOf, yX10_odds, yX10_see]
def iq_y_c18 : List (MethodName) := [yX10_forget, yX10_allOdds, yX10_who, yX10_begun, yX10_alikeOf, yX10_alike, yX10_nearest, yX10_culprit, yX10_crimes, yX10_doorsOf, yX10_doors, yX10_far, yX10_days, yX10_mends, yX10_mend, yX10_shared]
def iq_y_c19 : List (MethodName) := [yX10_about, yX10_often, yX10_cost, yX10_draw, yX10_season, yX10_image, yX10_restore, yJ6_bitCount_0f7a4, yJ0_length_8abf5, yJ0_charAt_5068e, yJ0_indexOf_0f7a4, yJ0_indexOf_7cf53, yJ0_coder_7d493, yJ0_isLatin1_aae02, yJ0_checkIndex_df160, yJ1_charAt_3b067]
def iq_y_c20 : List (MethodName) := [yJ1_canEncode_9a6ad, yJ1_indexOf_4cfef, yJ1_indexOfChar_4cfef, yJ7_fill_53178, yJ3_checkIndex_8e157, yL_museum, yL_count, yL_letter, yL_kind, yL_arc, yL_saying, yL_may, yL_add, yL_fly, yL_take, yL_open]
def iq_y_c21 : List (MethodName) := [yL_soonest, yL_must, yL_ways, yL_turn, yL_costs, yL_odds, yL_see, yL_who, yL_begun, yL_alike, yL_culprit, yL_season, yL_crimes, yL_doors, yL_far, yL_days]
def iq_y_c22 : List (MethodName) := [yL_mend, yL_shared, yL_about, yL_often, yL_cost, yL_law]
def iq_y_cs : List (List (MethodName)) := [iq_y_c0, iq_y_c1, iq_y_c2, iq_y_c3, iq_y_c4, iq_y_c5, iq_y_c6, iq_y_c7, iq_y_c8, iq_y_c9, iq_y_c10, iq_y_c11, iq_y_c12, iq_y_c13, iq_y_c14, iq_y_c15, iq_y_c16, iq_y_c17, iq_y_c18, iq_y_c19, iq_y_c20, iq_y_c21, iq_y_c22]
def iq_y (n : Nat) : MethodName := iq_nth (iq_nth iq_y_cs (n / 16) []) (n % 16) ⟨"", "", ""⟩
def iq_cc_c0 : List (ByteArray) := [cX0_init, cX0_keep, cX0_forgetOldest, cX0_copyFrom, cX1_init, cX1_clear, cX1_copyFrom, cX1_putSaying, cX1_beginOf, cX1_lengthOf, cX1_wordAt, cX1_longest, cX1_timesIn, cX1_putIn, cX1_takeOut, cX1_nextDay]
def iq_cc_c1 : List (ByteArray) := [cX1_undoLast, cX1_witness, cX2_init, cX2_whatMayCome, cX2_daysFor, cX2_isFree, cX2_isLawful, cX2_fillValues, cX2_weigh, cX2_weightOf, cX2_lowestTerm, cX2_greatestDivisor, cX2_whoCan, cX2_likeliest, cX2_multiplyOdds, cX2_playSeason]
def iq_cc_c2 : List (ByteArray) := [cX2_nextSeed, cX2_draw, cX2_wordAtWeight, cX3_init, cX3_clear, cX3_copyFrom, cX3_putState, cX3_putWord, cX3_putLetter, cX3_putArc, cX3_putPrice, cX3_letterAt, cX3_lastLetter, cX3_lengthOf, cX3_kindOf, cX3_priceOf]
def iq_cc_c3 : List (ByteArray) := [cX3_leadsBy, cX3_leadsTo, cX3_someFollows, cX3_stateOf, cX3_stateFrom, cX4_init, cX4_allStates, cX4_lookBehind, cX4_allBehind, cX4_leadingInto, cX4_longestWithin, cX4_keptOpen, cX4_mustEnd, cX4_measureToEnds, cX4_distanceOf, cX4_soonestEnd]
def iq_cc_c4 : List (ByteArray) := [cX4_soonestWord, cX4_firstNearer, cX4_countWays, cX4_waysByOneMore, cX4_playOut, cX4_inTurn, cX4_winningWord, cX4_priceRows, cX4_cheapestBehind, cX4_leastCost, cX4_mostFor, cX4_longestFor, cX4_wordFor, cX4_firstFor, cX4_closingKinds, cX4_endless]
def iq_cc_c5 : List (ByteArray) := [cX4_deadEnds, cX4_reached, cX4_fewestWords, cX5_init, cX5_read, cX5_refuse, cX5_readLine, cX5_readState, cX5_readWord, cX5_isToldRow, cX5_isRowOf, cX5_readArc, cX5_readCost, cX5_readSaying, cX5_isWordOfSaying, cX5_readHabit]
def iq_cc_c6 : List (ByteArray) := [cX5_readLaw, cX5_readRule, cX5_readExpr, cX5_canBeginExpr, cX5_readAnd, cX5_readNot, cX5_readTest, cX5_readSum, cX5_readProduct, cX5_readPart, cX5_valueNamed, cX5_passLineEnd, cX5_isNumberTo, cX5_isToldNumber, cX6_init, cX6_countBroken]
def iq_cc_c7 : List (ByteArray) := [cX6_whereBegun, cX6_fewestChanges, cX6_nearestTwo, cX6_countFlies, cX6_firstFly, cX6_wouldHeal, cX6_fewestToMend, cX6_fewestAt, cX6_fewestBy, cX6_fewestFrom, cX6_mendedWord, cX6_firstMending, cX6_longestShared, cX6_whereShared, cX6_findShared, cX7_init]
def iq_cc_c8 : List (ByteArray) := [cX7_clear, cX7_copyFrom, cX7_begin, cX7_end, cX7_step, cX7_stepOfValue, cX7_give, cX7_valueOf, cX7_join, cX8_init, cX8_begin, cX8_next, cX8_size, cX8_isSign, cX8_isWord, cX8_letterNumber]
def iq_cc_c9 : List (ByteArray) := [cX8_number, cX8_isBlank, cX8_isLetter, cX8_isDigit, cX9_init, cX9_feed, cX9_museum, cX9_fault, cX9_count, cX9_letter, cX9_kind, cX9_arc, cX9_saying, cX9_may, cX9_add, cX9_fly]
def iq_cc_c10 : List (ByteArray) := [cX9_take, cX9_day, cX9_undo, cX9_open, cX9_soonest, cX9_must, cX9_ways, cX9_turn, cX9_costs, cX9_closed, cX9_odds, cX9_see, cX9_forget, cX9_who, cX9_begun, cX9_alike]
def iq_cc_c11 : List (ByteArray) := [cX9_nearest, cX9_culprit, cX9_season, cX9_crimes, cX9_doors, cX9_far, cX9_days, cX9_mend, cX9_shared, cX9_about, cX9_often, cX9_cost, cX9_image, cX9_restore, cX9_tapeNumber, cX9_refuseAct]
def iq_cc_c12 : List (ByteArray) := [cX9_needState, cX9_needWord, cX9_needKind, cX9_needSaying, cX9_needPlace, cX9_needNoneOrMore, cX9_needOneOfTwo, cX10_init, cX10_thrown, cX10_right, cX10_within, cX10_copies, cX10_bits, cX10_feed, cX10_lays, cX10_byteAt]
def iq_cc_c13 : List (ByteArray) := [cX10_isLetter, cX10_isDigit, cX10_goes, cX10_spelled, cX10_letters, cX10_knownWord, cX10_wrong, cX10_isGood, cX10_isSign, cX10_need, cX10_numberHere, cX10_number, cX10_oneHere, cX10_one, cX10_puts, cX10_isOpen]
def iq_cc_c14 : List (ByteArray) := [cX10_strength, cX10_drops, cX10_waitsFor, cX10_part, cX10_deeper, cX10_operand, cX10_isOpened, cX10_closes, cX10_expression, cX10_isRowOf, cX10_readsWord, cX10_readsArc, cX10_readsSaying, cX10_line, cX10_museum, cX10_fault]
def iq_cc_c15 : List (ByteArray) := [cX10_keeps, cX10_refuses, cX10_undo, cX10_wordAt, cX10_leads, cX10_stateOf, cX10_stateNow, cX10_longestOf, cX10_broken, cX10_count, cX10_isState, cX10_isWord, cX10_isSaying, cX10_isWhat, cX10_letter, cX10_kind]
def iq_cc_c16 : List (ByteArray) := [cX10_arc, cX10_saying, cX10_works, cX10_reckons, cX10_lastLetter, cX10_rule, cX10_canFollow, cX10_mayCome, cX10_may, cX10_puts0, cX10_add, cX10_fly, cX10_take, cX10_day, cX10_isArc, cX10_onward]
def iq_cc_c17 : List (ByteArray) := [cX10_follows, cX10_open, cX10_measures, cX10_soonest, cX10_must, cX10_ways, cX10_plays, cX10_turn, cX10_costs, cX10_closed, cX10_weight, cX10_weights, cX10_portion, cX10_oddsOf, cX10_odds, cX10_see]
def iq_cc_c18 : List (ByteArray) := [cX10_forget, cX10_allOdds, cX10_who, cX10_begun, cX10_alikeOf, cX10_alike, cX10_nearest, cX10_culprit, cX10_crimes, cX10_doorsOf, cX10_doors, cX10_far, cX10_days, cX10_mends, cX10_mend, cX10_shared]
def iq_cc_c19 : List (ByteArray) := [cX10_about, cX10_often, cX10_cost, cX10_draw, cX10_season, cX10_image, cX10_restore, cJ6_bitCount_0f7a4, cJ0_length_8abf5, cJ0_charAt_5068e, cJ0_indexOf_0f7a4, cJ0_indexOf_7cf53, cJ0_coder_7d493, cJ0_isLatin1_aae02, cJ0_checkIndex_df160, cJ1_charAt_3b067]
def iq_cc_c20 : List (ByteArray) := [cJ1_canEncode_9a6ad, cJ1_indexOf_4cfef, cJ1_indexOfChar_4cfef, cJ7_fill_53178, cJ3_checkIndex_8e157, cL_museum, cL_count, cL_letter, cL_kind, cL_arc, cL_saying, cL_may, cL_add, cL_fly, cL_take, cL_open]
def iq_cc_c21 : List (ByteArray) := [cL_soonest, cL_must, cL_ways, cL_turn, cL_costs, cL_odds, cL_see, cL_who, cL_begun, cL_alike, cL_culprit, cL_season, cL_crimes, cL_doors, cL_far, cL_days]
def iq_cc_c22 : List (ByteArray) := [cL_mend, cL_shared, cL_about, cL_often, cL_cost, cL_law]
def iq_cc_cs : List (List (ByteArray)) := [iq_cc_c0, iq_cc_c1, iq_cc_c2, iq_cc_c3, iq_cc_c4, iq_cc_c5, iq_cc_c6, iq_cc_c7, iq_cc_c8, iq_cc_c9, iq_cc_c10, iq_cc_c11, iq_cc_c12, iq_cc_c13, iq_cc_c14, iq_cc_c15, iq_cc_c16, iq_cc_c17, iq_cc_c18, iq_cc_c19, iq_cc_c20, iq_cc_c21, iq_cc_c22]
def iq_cc (n : Nat) : ByteArray := iq_nth (iq_nth iq_cc_cs (n / 16) []) (n % 16) ⟨#[]⟩
def iq_rty_c0 : List (Option FieldType) := [none, none, none, none, none, none, none, none, (some .int), (some .int), (some .int), (some .int), (some .int), none, (some .int), none]
def iq_rty_c1 : List (Option FieldType) := [(some .int), none, none, (some .int), (some .int), (some .boolean), (some .boolean), none, (some .int), (some .int), (some .int), (some .int), (some .int), (some .int), (some .boolean), (some .int)]
def iq_rty_c2 : List (Option FieldType) := [(some .int), (some .int), (some .int), none, none, none, none, none, none, none, none, (some .int), (some .int), (some .int), (some .int), (some .int)]
def iq_rty_c3 : List (Option FieldType) := [(some .int), (some .int), (some .boolean), (some .int), (some .int), none, (some .int), none, (some .int), (some .int), (some .int), (some .int), (some .int), none, (some .int), (some .int)]
def iq_rty_c4 : List (Option FieldType) := [(some .int), (some .int), (some .long), (some .long), none, (some .int), (some .int), none, (some .int), (some .int), (some .int), (some .int), (some .int), (some .int), (some .int), (some .int)]
def iq_rty_c5 : List (Option FieldType) := [(some .int), (some .int), (some .int), none, (some .int), (some .boolean), (some .boolean), (some .boolean), (some .boolean), (some .boolean), (some .boolean), (some .boolean), (some .boolean), (some .boolean), (some .boolean), (some .boolean)]
def iq_rty_c6 : List (Option FieldType) := [(some .boolean), (some .boolean), (some .boolean), (some .boolean), (some .boolean), (some .boolean), (some .boolean), (some .boolean), (some .boolean), (some .boolean), (some .int), (some .boolean), (some .boolean), (some .boolean), none, (some .int)]
def iq_rty_c7 : List (Option FieldType) := [(some .int), (some .int), (some .int), (some .int), (some .int), (some .boolean), (some .int), (some .int), (some .int), (some .int), (some .int), (some .int), (some .int), (some .int), none, none]
def iq_rty_c8 : List (Option FieldType) := [none, none, none, none, none, (some .int), (some .int), (some .int), (some .int), none, none, none, (some .int), (some .boolean), (some .boolean), (some .int)]
def iq_rty_c9 : List (Option FieldType) := [(some .int), (some .boolean), (some .boolean), (some .boolean), none, (some .int), (some .int), (some .int), (some .int), (some .int), (some .int), (some .int), (some .int), (some .int), (some .int), (some .int)]
def iq_rty_c10 : List (Option FieldType) := [(some .int), (some .int), (some .int), (some .int), (some .int), (some .int), (some .long), (some .int), (some .int), (some .int), (some .int), (some .int), none, (some .int), (some .int), (some .int)]
def iq_rty_c11 : List (Option FieldType) := [(some .int), (some .int), (some .int), (some .int), (some .int), (some .int), (some .int), (some .int), (some .int), (some .int), (some .int), (some .int), none, (some .boolean), none, (some .int)]
def iq_rty_c12 : List (Option FieldType) := [none, none, none, none, none, none, none, none, (some .int), (some .boolean), (some .boolean), none, (some .int), (some .int), none, (some .int)]
def iq_rty_c13 : List (Option FieldType) := [(some .boolean), (some .boolean), none, (some .long), (some .long), (some .int), none, (some .boolean), (some .boolean), none, (some .boolean), (some .int), (some .int), (some .int), none, (some .boolean)]
def iq_rty_c14 : List (Option FieldType) := [(some .int), none, none, none, none, none, (some .boolean), none, none, (some .boolean), none, none, none, none, (some .int), (some .int)]
def iq_rty_c15 : List (Option FieldType) := [none, (some .int), (some .int), (some .int), (some .int), (some .int), (some .int), (some .int), (some .int), (some .int), (some .boolean), (some .boolean), (some .boolean), (some .boolean), (some .int), (some .int)]
def iq_rty_c16 : List (Option FieldType) := [(some .int), (some .int), (some .int), (some .int), (some .int), (some .int), (some .boolean), (some .boolean), (some .int), none, (some .int), (some .int), (some .int), (some .int), (some .boolean), (some .int)]
def iq_rty_c17 : List (Option FieldType) := [(some .int), (some .int), none, (some .int), (some .int), (some .long), none, (some .int), (some .int), (some .int), (some .int), (some .int), (some .int), (some .int), (some .int), (some .int)]
def iq_rty_c18 : List (Option FieldType) := [none, (some .long), (some .int), (some .int), (some .int), (some .int), (some .int), (some .int), (some .int), (some .int), (some .int), (some .int), (some .int), none, (some .int), (some .int)]
def iq_rty_c19 : List (Option FieldType) := [(some .int), (some .int), (some .int), (some .int), (some .int), none, (some .boolean), (some .int), (some .int), (some .char), (some .int), (some .int), (some .byte), (some .boolean), none, (some .char)]
def iq_rty_c20 : List (Option FieldType) := [(some .boolean), (some .int), (some .int), none, (some .int), (some .int), (some .int), (some .int), (some .int), (some .int), (some .int), (some .int), (some .int), (some .int), (some .int), (some .int)]
def iq_rty_c21 : List (Option FieldType) := [(some .int), (some .int), (some .int), (some .int), (some .int), (some .int), (some .int), (some .int), (some .int), (some .int), (some .int), (some .int), (some .int), (some .int), (some .int), (some .int)]
def iq_rty_c22 : List (Option FieldType) := [(some .int), (some .int), (some .int), (some .int), (some .int), (some .boolean)]
def iq_rty_cs : List (List (Option FieldType)) := [iq_rty_c0, iq_rty_c1, iq_rty_c2, iq_rty_c3, iq_rty_c4, iq_rty_c5, iq_rty_c6, iq_rty_c7, iq_rty_c8, iq_rty_c9, iq_rty_c10, iq_rty_c11, iq_rty_c12, iq_rty_c13, iq_rty_c14, iq_rty_c15, iq_rty_c16, iq_rty_c17, iq_rty_c18, iq_rty_c19, iq_rty_c20, iq_rty_c21, iq_rty_c22]
def iq_rty (n : Nat) : Option FieldType := iq_nth (iq_nth iq_rty_cs (n / 16) []) (n % 16) none
def iq_tyk : Nat → String × String × String × Bool → Prop
  | 0, t => t.2.2.1 = "I" ∧ t.2.2.2 = false
  | 1, t => t.2.2.1 = "Z" ∧ t.2.2.2 = false
  | 2, t => t.2.2.1 = "J" ∧ t.2.2.2 = false
  | _, t => t.2.2.2 = true ∧ ∃ ty, parseFieldDescriptor t.2.2.1 = some ty ∧ ((∃ n, ty = .object n) ∨ ∃ u, ty = .array u)
def iq_fok (ow : Nat) (e : Nat × (Nat × Nat × Nat)) : Prop := e.2.1 = 20 ∨ ∃ (C : String) (T : u_T) (N : Nat), vwCl[e.2.1]? = some (C, T, N) ∧ e.2.2.1 < N ∧ Cond.fieldLink (iq_nm ow) e.1 (T e.2.2.1).1 (T e.2.2.1).2.1 (T e.2.2.1).2.2.1 ∈ iq_U ∧ iq_tyk e.2.2.2 (T e.2.2.1)
theorem iq_f0_0 : iq_fok 0 (24, (0, 0, 0)) := Or.inr ⟨RX0, TX0, 5, rfl, by decide, (iq_mt1 (i := 150) rfl rfl), ⟨rfl, rfl⟩⟩
theorem iq_f0_1 : iq_fok 0 (9, (0, 1, 3)) := Or.inr ⟨RX0, TX0, 5, rfl, by decide, (iq_mt1 (i := 153) rfl rfl), ⟨rfl, _, tyX0_ok 1 (by decide), Or.inr ⟨_, rfl⟩⟩⟩
theorem iq_f0_2 : iq_fok 0 (15, (0, 2, 3)) := Or.inr ⟨RX0, TX0, 5, rfl, by decide, (iq_mt1 (i := 155) rfl rfl), ⟨rfl, _, tyX0_ok 2 (by decide), Or.inr ⟨_, rfl⟩⟩⟩
theorem iq_f0_3 : iq_fok 0 (18, (0, 3, 3)) := Or.inr ⟨RX0, TX0, 5, rfl, by decide, (iq_mt1 (i := 157) rfl rfl), ⟨rfl, _, tyX0_ok 3 (by decide), Or.inr ⟨_, rfl⟩⟩⟩
theorem iq_f0_4 : iq_fok 0 (21, (0, 4, 3)) := Or.inr ⟨RX0, TX0, 5, rfl, by decide, (iq_mt1 (i := 159) rfl rfl), ⟨rfl, _, tyX0_ok 4 (by decide), Or.inr ⟨_, rfl⟩⟩⟩
theorem iq_fds_0 : ∀ e ∈ iq_fds 0, iq_fok 0 e := List.forall_mem_cons.mpr ⟨iq_f0_0, List.forall_mem_cons.mpr ⟨iq_f0_1, List.forall_mem_cons.mpr ⟨iq_f0_2, List.forall_mem_cons.mpr ⟨iq_f0_3, List.forall_mem_cons.mpr ⟨iq_f0_4, fun _ h => absurd h List.not_mem_nil⟩⟩⟩⟩⟩
theorem iq_f1_0 : iq_fok 1 (44, (0, 0, 0)) := Or.inr ⟨RX0, TX0, 5, rfl, by decide, (iq_mt1 (i := 151) rfl rfl), ⟨rfl, rfl⟩⟩
theorem iq_f1_1 : iq_fok 1 (67, (0, 1, 3)) := Or.inr ⟨RX0, TX0, 5, rfl, by decide, (iq_mt1 (i := 154) rfl rfl), ⟨rfl, _, tyX0_ok 1 (by decide), Or.inr ⟨_, rfl⟩⟩⟩
theorem iq_f1_2 : iq_fok 1 (70, (0, 2, 3)) := Or.inr ⟨RX0, TX0, 5, rfl, by decide, (iq_mt1 (i := 156) rfl rfl), ⟨rfl, _, tyX0_ok 2 (by decide), Or.inr ⟨_, rfl⟩⟩⟩
theorem iq_f1_3 : iq_fok 1 (72, (0, 3, 3)) := Or.inr ⟨RX0, TX0, 5, rfl, by decide, (iq_mt1 (i := 158) rfl rfl), ⟨rfl, _, tyX0_ok 3 (by decide), Or.inr ⟨_, rfl⟩⟩⟩
theorem iq_f1_4 : iq_fok 1 (78, (0, 4, 3)) := Or.inr ⟨RX0, TX0, 5, rfl, by decide, (iq_mt1 (i := 160) rfl rfl), ⟨rfl, _, tyX0_ok 4 (by decide), Or.inr ⟨_, rfl⟩⟩⟩
theorem iq_f1_5 : iq_fok 1 (34, (1, 0, 0)) := Or.inr ⟨RX1, TX1, 9, rfl, by decide, (iq_mt1 (i := 172) rfl rfl), ⟨rfl, rfl⟩⟩
theorem iq_f1_6 : iq_fok 1 (38, (1, 1, 0)) := Or.inr ⟨RX1, TX1, 9, rfl, by decide, (iq_mt1 (i := 178) rfl rfl), ⟨rfl, rfl⟩⟩
theorem iq_f1_7 : iq_fok 1 (41, (1, 2, 0)) := Or.inr ⟨RX1, TX1, 9, rfl, by decide, (iq_mt1 (i := 181) rfl rfl), ⟨rfl, rfl⟩⟩
theorem iq_f1_8 : iq_fok 1 (9, (1, 3, 3)) := Or.inr ⟨RX1, TX1, 9, rfl, by decide, (iq_mt1 (i := 184) rfl rfl), ⟨rfl, _, tyX1_ok 3 (by decide), Or.inr ⟨_, rfl⟩⟩⟩
theorem iq_f1_9 : iq_fok 1 (15, (1, 4, 3)) := Or.inr ⟨RX1, TX1, 9, rfl, by decide, (iq_mt1 (i := 186) rfl rfl), ⟨rfl, _, tyX1_ok 4 (by decide), Or.inr ⟨_, rfl⟩⟩⟩
theorem iq_f1_10 : iq_fok 1 (21, (1, 5, 3)) := Or.inr ⟨RX1, TX1, 9, rfl, by decide, (iq_mt1 (i := 188) rfl rfl), ⟨rfl, _, tyX1_ok 5 (by decide), Or.inl ⟨_, rfl⟩⟩⟩
theorem iq_f1_11 : iq_fok 1 (25, (1, 6, 3)) := Or.inr ⟨RX1, TX1, 9, rfl, by decide, (iq_mt1 (i := 190) rfl rfl), ⟨rfl, _, tyX1_ok 6 (by decide), Or.inr ⟨_, rfl⟩⟩⟩
theorem iq_f1_12 : iq_fok 1 (28, (1, 7, 3)) := Or.inr ⟨RX1, TX1, 9, rfl, by decide, (iq_mt1 (i := 191) rfl rfl), ⟨rfl, _, tyX1_ok 7 (by decide), Or.inr ⟨_, rfl⟩⟩⟩
theorem iq_f1_13 : iq_fok 1 (31, (1, 8, 3)) := Or.inr ⟨RX1, TX1, 9, rfl, by decide, (iq_mt1 (i := 193) rfl rfl), ⟨rfl, _, tyX1_ok 8 (by decide), Or.inr ⟨_, rfl⟩⟩⟩
theorem iq_fds_1 : ∀ e ∈ iq_fds 1, iq_fok 1 e := List.forall_mem_cons.mpr ⟨iq_f1_0, List.forall_mem_cons.mpr ⟨iq_f1_1, List.forall_mem_cons.mpr ⟨iq_f1_2, List.forall_mem_cons.mpr ⟨iq_f1_3, List.forall_mem_cons.mpr ⟨iq_f1_4, List.forall_mem_cons.mpr ⟨iq_f1_5, List.forall_mem_cons.mpr ⟨iq_f1_6, List.forall_mem_cons.mpr ⟨iq_f1_7, List.forall_mem_cons.mpr ⟨iq_f1_8, List.forall_mem_cons.mpr ⟨iq_f1_9, List.forall_mem_cons.mpr ⟨iq_f1_10, List.forall_mem_cons.mpr ⟨iq_f1_11, List.forall_mem_cons.mpr ⟨iq_f1_12, List.forall_mem_cons.mpr ⟨iq_f1_13, fun _ h => absurd h List.not_mem_nil⟩⟩⟩⟩⟩⟩⟩⟩⟩⟩⟩⟩⟩⟩
theorem iq_f2_0 : iq_fok 2 (108, (7, 0, 0)) := Or.inr ⟨RX7, TX7, 7, rfl, by decide, (iq_mt1 (i := 48) rfl rfl), ⟨rfl, rfl⟩⟩
theorem iq_f2_1 : iq_fok 2 (62, (7, 1, 1)) := Or.inr ⟨RX7, TX7, 7, rfl, by decide, (iq_mt1 (i := 51) rfl rfl), ⟨rfl, rfl⟩⟩
theorem iq_f2_2 : iq_fok 2 (30, (3, 2, 0)) := Or.inr ⟨RX3, TX3, 13, rfl, by decide, (iq_mt1 (i := 86) rfl rfl), ⟨rfl, rfl⟩⟩
theorem iq_f2_3 : iq_fok 2 (58, (3, 9, 3)) := Or.inr ⟨RX3, TX3, 13, rfl, by decide, (iq_mt1 (i := 105) rfl rfl), ⟨rfl, _, tyX3_ok 9 (by decide), Or.inl ⟨_, rfl⟩⟩⟩
theorem iq_f2_4 : iq_fok 2 (131, (1, 0, 0)) := Or.inr ⟨RX1, TX1, 9, rfl, by decide, (iq_mt1 (i := 176) rfl rfl), ⟨rfl, rfl⟩⟩
theorem iq_f2_5 : iq_fok 2 (38, (1, 1, 0)) := Or.inr ⟨RX1, TX1, 9, rfl, by decide, (iq_mt1 (i := 179) rfl rfl), ⟨rfl, rfl⟩⟩
theorem iq_f2_6 : iq_fok 2 (122, (1, 2, 0)) := Or.inr ⟨RX1, TX1, 9, rfl, by decide, (iq_mt1 (i := 183) rfl rfl), ⟨rfl, rfl⟩⟩
theorem iq_f2_7 : iq_fok 2 (125, (1, 7, 3)) := Or.inr ⟨RX1, TX1, 9, rfl, by decide, (iq_mt1 (i := 192) rfl rfl), ⟨rfl, _, tyX1_ok 7 (by decide), Or.inr ⟨_, rfl⟩⟩⟩
theorem iq_f2_8 : iq_fok 2 (128, (1, 8, 3)) := Or.inr ⟨RX1, TX1, 9, rfl, by decide, (iq_mt1 (i := 194) rfl rfl), ⟨rfl, _, tyX1_ok 8 (by decide), Or.inr ⟨_, rfl⟩⟩⟩
theorem iq_f2_9 : iq_fok 2 (20, (2, 0, 3)) := Or.inr ⟨RX2, TX2, 5, rfl, by decide, (iq_mt2 (i := 59) rfl rfl), ⟨rfl, _, tyX2_ok 0 (by decide), Or.inl ⟨_, rfl⟩⟩⟩
theorem iq_f2_10 : iq_fok 2 (11, (2, 1, 3)) := Or.inr ⟨RX2, TX2, 5, rfl, by decide, (iq_mt2 (i := 60) rfl rfl), ⟨rfl, _, tyX2_ok 1 (by decide), Or.inr ⟨_, rfl⟩⟩⟩
theorem iq_f2_11 : iq_fok 2 (17, (2, 2, 3)) := Or.inr ⟨RX2, TX2, 5, rfl, by decide, (iq_mt2 (i := 61) rfl rfl), ⟨rfl, _, tyX2_ok 2 (by decide), Or.inr ⟨_, rfl⟩⟩⟩
theorem iq_f2_12 : iq_fok 2 (115, (2, 3, 2)) := Or.inr ⟨RX2, TX2, 5, rfl, by decide, (iq_mt2 (i := 62) rfl rfl), ⟨rfl, rfl⟩⟩
theorem iq_f2_13 : iq_fok 2 (119, (2, 4, 2)) := Or.inr ⟨RX2, TX2, 5, rfl, by decide, (iq_mt2 (i := 63) rfl rfl), ⟨rfl, rfl⟩⟩
theorem iq_fds_2 : ∀ e ∈ iq_fds 2, iq_fok 2 e := List.forall_mem_cons.mpr ⟨iq_f2_0, List.forall_mem_cons.mpr ⟨iq_f2_1, List.forall_mem_cons.mpr ⟨iq_f2_2, List.forall_mem_cons.mpr ⟨iq_f2_3, List.forall_mem_cons.mpr ⟨iq_f2_4, List.forall_mem_cons.mpr ⟨iq_f2_5, List.forall_mem_cons.mpr ⟨iq_f2_6, List.forall_mem_cons.mpr ⟨iq_f2_7, List.forall_mem_cons.mpr ⟨iq_f2_8, List.forall_mem_cons.mpr ⟨iq_f2_9, List.forall_mem_cons.mpr ⟨iq_f2_10, List.forall_mem_cons.mpr ⟨iq_f2_11, List.forall_mem_cons.mpr ⟨iq_f2_12, List.forall_mem_cons.mpr ⟨iq_f2_13, fun _ h => absurd h List.not_mem_nil⟩⟩⟩⟩⟩⟩⟩⟩⟩⟩⟩⟩⟩⟩
theorem iq_f3_0 : iq_fok 3 (43, (3, 0, 0)) := Or.inr ⟨RX3, TX3, 13, rfl, by decide, (iq_mt1 (i := 77) rfl rfl), ⟨rfl, rfl⟩⟩
theorem iq_f3_1 : iq_fok 3 (47, (3, 1, 0)) := Or.inr ⟨RX3, TX3, 13, rfl, by decide, (iq_mt1 (i := 82) rfl rfl), ⟨rfl, rfl⟩⟩
theorem iq_f3_2 : iq_fok 3 (50, (3, 2, 0)) := Or.inr ⟨RX3, TX3, 13, rfl, by decide, (iq_mt1 (i := 85) rfl rfl), ⟨rfl, rfl⟩⟩
theorem iq_f3_3 : iq_fok 3 (53, (3, 3, 0)) := Or.inr ⟨RX3, TX3, 13, rfl, by decide, (iq_mt1 (i := 91) rfl rfl), ⟨rfl, rfl⟩⟩
theorem iq_f3_4 : iq_fok 3 (56, (3, 4, 0)) := Or.inr ⟨RX3, TX3, 13, rfl, by decide, (iq_mt1 (i := 94) rfl rfl), ⟨rfl, rfl⟩⟩
theorem iq_f3_5 : iq_fok 3 (59, (3, 5, 0)) := Or.inr ⟨RX3, TX3, 13, rfl, by decide, (iq_mt1 (i := 96) rfl rfl), ⟨rfl, rfl⟩⟩
theorem iq_f3_6 : iq_fok 3 (9, (3, 6, 3)) := Or.inr ⟨RX3, TX3, 13, rfl, by decide, (iq_mt1 (i := 98) rfl rfl), ⟨rfl, _, tyX3_ok 6 (by decide), Or.inr ⟨_, rfl⟩⟩⟩
theorem iq_f3_7 : iq_fok 3 (15, (3, 7, 3)) := Or.inr ⟨RX3, TX3, 13, rfl, by decide, (iq_mt1 (i := 100) rfl rfl), ⟨rfl, _, tyX3_ok 7 (by decide), Or.inr ⟨_, rfl⟩⟩⟩
theorem iq_f3_8 : iq_fok 3 (18, (3, 8, 3)) := Or.inr ⟨RX3, TX3, 13, rfl, by decide, (iq_mt1 (i := 102) rfl rfl), ⟨rfl, _, tyX3_ok 8 (by decide), Or.inr ⟨_, rfl⟩⟩⟩
theorem iq_f3_9 : iq_fok 3 (24, (3, 9, 3)) := Or.inr ⟨RX3, TX3, 13, rfl, by decide, (iq_mt1 (i := 104) rfl rfl), ⟨rfl, _, tyX3_ok 9 (by decide), Or.inl ⟨_, rfl⟩⟩⟩
theorem iq_f3_10 : iq_fok 3 (28, (3, 10, 3)) := Or.inr ⟨RX3, TX3, 13, rfl, by decide, (iq_mt1 (i := 108) rfl rfl), ⟨rfl, _, tyX3_ok 10 (by decide), Or.inr ⟨_, rfl⟩⟩⟩
theorem iq_f3_11 : iq_fok 3 (31, (3, 11, 3)) := Or.inr ⟨RX3, TX3, 13, rfl, by decide, (iq_mt1 (i := 109) rfl rfl), ⟨rfl, _, tyX3_ok 11 (by decide), Or.inr ⟨_, rfl⟩⟩⟩
theorem iq_f3_12 : iq_fok 3 (34, (3, 12, 3)) := Or.inr ⟨RX3, TX3, 13, rfl, by decide, (iq_mt1 (i := 110) rfl rfl), ⟨rfl, _, tyX3_ok 12 (by decide), Or.inr ⟨_, rfl⟩⟩⟩
theorem iq_fds_3 : ∀ e ∈ iq_fds 3, iq_fok 3 e := List.forall_mem_cons.mpr ⟨iq_f3_0, List.forall_mem_cons.mpr ⟨iq_f3_1, List.forall_mem_cons.mpr ⟨iq_f3_2, List.forall_mem_cons.mpr ⟨iq_f3_3, List.forall_mem_cons.mpr ⟨iq_f3_4, List.forall_mem_cons.mpr ⟨iq_f3_5, List.forall_mem_cons.mpr ⟨iq_f3_6, List.forall_mem_cons.mpr ⟨iq_f3_7, List.forall_mem_cons.mpr ⟨iq_f3_8, List.forall_mem_cons.mpr ⟨iq_f3_9, List.forall_mem_cons.mpr ⟨iq_f3_10, List.forall_mem_cons.mpr ⟨iq_f3_11, List.forall_mem_cons.mpr ⟨iq_f3_12, fun _ h => absurd h List.not_mem_nil⟩⟩⟩⟩⟩⟩⟩⟩⟩⟩⟩⟩⟩
theorem iq_f4_0 : iq_fok 4 (32, (3, 0, 0)) := Or.inr ⟨RX3, TX3, 13, rfl, by decide, (iq_mt1 (i := 78) rfl rfl), ⟨rfl, rfl⟩⟩
theorem iq_f4_1 : iq_fok 4 (59, (3, 1, 0)) := Or.inr ⟨RX3, TX3, 13, rfl, by decide, (iq_mt1 (i := 84) rfl rfl), ⟨rfl, rfl⟩⟩
theorem iq_f4_2 : iq_fok 4 (75, (3, 2, 0)) := Or.inr ⟨RX3, TX3, 13, rfl, by decide, (iq_mt1 (i := 90) rfl rfl), ⟨rfl, rfl⟩⟩
theorem iq_f4_3 : iq_fok 4 (38, (3, 4, 0)) := Or.inr ⟨RX3, TX3, 13, rfl, by decide, (iq_mt1 (i := 95) rfl rfl), ⟨rfl, rfl⟩⟩
theorem iq_f4_4 : iq_fok 4 (88, (3, 8, 3)) := Or.inr ⟨RX3, TX3, 13, rfl, by decide, (iq_mt1 (i := 103) rfl rfl), ⟨rfl, _, tyX3_ok 8 (by decide), Or.inr ⟨_, rfl⟩⟩⟩
theorem iq_f4_5 : iq_fok 4 (128, (1, 0, 0)) := Or.inr ⟨RX1, TX1, 9, rfl, by decide, (iq_mt1 (i := 177) rfl rfl), ⟨rfl, rfl⟩⟩
theorem iq_f4_6 : iq_fok 4 (28, (4, 0, 3)) := Or.inr ⟨RX4, TX4, 8, rfl, by decide, (iq_mt2 (i := 27) rfl rfl), ⟨rfl, _, tyX4_ok 0 (by decide), Or.inl ⟨_, rfl⟩⟩⟩
theorem iq_f4_7 : iq_fok 4 (9, (4, 1, 3)) := Or.inr ⟨RX4, TX4, 8, rfl, by decide, (iq_mt2 (i := 28) rfl rfl), ⟨rfl, _, tyX4_ok 1 (by decide), Or.inr ⟨_, rfl⟩⟩⟩
theorem iq_f4_8 : iq_fok 4 (15, (4, 2, 3)) := Or.inr ⟨RX4, TX4, 8, rfl, by decide, (iq_mt2 (i := 29) rfl rfl), ⟨rfl, _, tyX4_ok 2 (by decide), Or.inr ⟨_, rfl⟩⟩⟩
theorem iq_f4_9 : iq_fok 4 (18, (4, 3, 3)) := Or.inr ⟨RX4, TX4, 8, rfl, by decide, (iq_mt2 (i := 30) rfl rfl), ⟨rfl, _, tyX4_ok 3 (by decide), Or.inr ⟨_, rfl⟩⟩⟩
theorem iq_f4_10 : iq_fok 4 (21, (4, 4, 3)) := Or.inr ⟨RX4, TX4, 8, rfl, by decide, (iq_mt2 (i := 31) rfl rfl), ⟨rfl, _, tyX4_ok 4 (by decide), Or.inr ⟨_, rfl⟩⟩⟩
theorem iq_f4_11 : iq_fok 4 (25, (4, 5, 3)) := Or.inr ⟨RX4, TX4, 8, rfl, by decide, (iq_mt2 (i := 32) rfl rfl), ⟨rfl, _, tyX4_ok 5 (by decide), Or.inr ⟨_, rfl⟩⟩⟩
theorem iq_f4_12 : iq_fok 4 (91, (4, 6, 0)) := Or.inr ⟨RX4, TX4, 8, rfl, by decide, (iq_mt2 (i := 33) rfl rfl), ⟨rfl, rfl⟩⟩
theorem iq_f4_13 : iq_fok 4 (94, (4, 7, 0)) := Or.inr ⟨RX4, TX4, 8, rfl, by decide, (iq_mt2 (i := 34) rfl rfl), ⟨rfl, rfl⟩⟩
theorem iq_fds_4 : ∀ e ∈ iq_fds 4, iq_fok 4 e := List.forall_mem_cons.mpr ⟨iq_f4_0, List.forall_mem_cons.mpr ⟨iq_f4_1, List.forall_mem_cons.mpr ⟨iq_f4_2, List.forall_mem_cons.mpr ⟨iq_f4_3, List.forall_mem_cons.mpr ⟨iq_f4_4, List.forall_mem_cons.mpr ⟨iq_f4_5, List.forall_mem_cons.mpr ⟨iq_f4_6, List.forall_mem_cons.mpr ⟨iq_f4_7, List.forall_mem_cons.mpr ⟨iq_f4_8, List.forall_mem_cons.mpr ⟨iq_f4_9, List.forall_mem_cons.mpr ⟨iq_f4_10, List.forall_mem_cons.mpr ⟨iq_f4_11, List.forall_mem_cons.mpr ⟨iq_f4_12, List.forall_mem_cons.mpr ⟨iq_f4_13, fun _ h => absurd h List.not_mem_nil⟩⟩⟩⟩⟩⟩⟩⟩⟩⟩⟩⟩⟩⟩
theorem iq_f5_0 : iq_fok 5 (196, (7, 0, 0)) := Or.inr ⟨RX7, TX7, 7, rfl, by decide, (iq_mt1 (i := 49) rfl rfl), ⟨rfl, rfl⟩⟩
theorem iq_f5_1 : iq_fok 5 (204, (7, 1, 1)) := Or.inr ⟨RX7, TX7, 7, rfl, by decide, (iq_mt1 (i := 52) rfl rfl), ⟨rfl, rfl⟩⟩
theorem iq_f5_2 : iq_fok 5 (100, (3, 0, 0)) := Or.inr ⟨RX3, TX3, 13, rfl, by decide, (iq_mt1 (i := 80) rfl rfl), ⟨rfl, rfl⟩⟩
theorem iq_f5_3 : iq_fok 5 (115, (3, 2, 0)) := Or.inr ⟨RX3, TX3, 13, rfl, by decide, (iq_mt1 (i := 88) rfl rfl), ⟨rfl, rfl⟩⟩
theorem iq_f5_4 : iq_fok 5 (153, (3, 3, 0)) := Or.inr ⟨RX3, TX3, 13, rfl, by decide, (iq_mt1 (i := 93) rfl rfl), ⟨rfl, rfl⟩⟩
theorem iq_f5_5 : iq_fok 5 (165, (3, 5, 0)) := Or.inr ⟨RX3, TX3, 13, rfl, by decide, (iq_mt1 (i := 97) rfl rfl), ⟨rfl, rfl⟩⟩
theorem iq_f5_6 : iq_fok 5 (192, (3, 9, 3)) := Or.inr ⟨RX3, TX3, 13, rfl, by decide, (iq_mt1 (i := 107) rfl rfl), ⟨rfl, _, tyX3_ok 9 (by decide), Or.inl ⟨_, rfl⟩⟩⟩
theorem iq_f5_7 : iq_fok 5 (171, (1, 0, 0)) := Or.inr ⟨RX1, TX1, 9, rfl, by decide, (iq_mt1 (i := 175) rfl rfl), ⟨rfl, rfl⟩⟩
theorem iq_f5_8 : iq_fok 5 (47, (8, 0, 0)) := Or.inr ⟨RX8, TX8, 5, rfl, by decide, (iq_mt1 (i := 226) rfl rfl), ⟨rfl, rfl⟩⟩
theorem iq_f5_9 : iq_fok 5 (54, (8, 1, 0)) := Or.inr ⟨RX8, TX8, 5, rfl, by decide, (iq_mt1 (i := 229) rfl rfl), ⟨rfl, rfl⟩⟩
theorem iq_f5_10 : iq_fok 5 (40, (5, 0, 0)) := Or.inr ⟨RX5, TX5, 5, rfl, by decide, (iq_mt2 (i := 4) rfl rfl), ⟨rfl, rfl⟩⟩
theorem iq_f5_11 : iq_fok 5 (36, (5, 1, 0)) := Or.inr ⟨RX5, TX5, 5, rfl, by decide, (iq_mt2 (i := 6) rfl rfl), ⟨rfl, rfl⟩⟩
theorem iq_f5_12 : iq_fok 5 (14, (5, 2, 3)) := Or.inr ⟨RX5, TX5, 5, rfl, by decide, (iq_mt2 (i := 7) rfl rfl), ⟨rfl, _, tyX5_ok 2 (by decide), Or.inl ⟨_, rfl⟩⟩⟩
theorem iq_f5_13 : iq_fok 5 (20, (5, 3, 3)) := Or.inr ⟨RX5, TX5, 5, rfl, by decide, (iq_mt2 (i := 8) rfl rfl), ⟨rfl, _, tyX5_ok 3 (by decide), Or.inl ⟨_, rfl⟩⟩⟩
theorem iq_f5_14 : iq_fok 5 (24, (5, 4, 3)) := Or.inr ⟨RX5, TX5, 5, rfl, by decide, (iq_mt2 (i := 9) rfl rfl), ⟨rfl, _, tyX5_ok 4 (by decide), Or.inl ⟨_, rfl⟩⟩⟩
theorem iq_fds_5 : ∀ e ∈ iq_fds 5, iq_fok 5 e := List.forall_mem_cons.mpr ⟨iq_f5_0, List.forall_mem_cons.mpr ⟨iq_f5_1, List.forall_mem_cons.mpr ⟨iq_f5_2, List.forall_mem_cons.mpr ⟨iq_f5_3, List.forall_mem_cons.mpr ⟨iq_f5_4, List.forall_mem_cons.mpr ⟨iq_f5_5, List.forall_mem_cons.mpr ⟨iq_f5_6, List.forall_mem_cons.mpr ⟨iq_f5_7, List.forall_mem_cons.mpr ⟨iq_f5_8, List.forall_mem_cons.mpr ⟨iq_f5_9, List.forall_mem_cons.mpr ⟨iq_f5_10, List.forall_mem_cons.mpr ⟨iq_f5_11, List.forall_mem_cons.mpr ⟨iq_f5_12, List.forall_mem_cons.mpr ⟨iq_f5_13, List.forall_mem_cons.mpr ⟨iq_f5_14, fun _ h => absurd h List.not_mem_nil⟩⟩⟩⟩⟩⟩⟩⟩⟩⟩⟩⟩⟩⟩⟩
theorem iq_f6_0 : iq_fok 6 (37, (3, 0, 0)) := Or.inr ⟨RX3, TX3, 13, rfl, by decide, (iq_mt1 (i := 79) rfl rfl), ⟨rfl, rfl⟩⟩
theorem iq_f6_1 : iq_fok 6 (80, (3, 2, 0)) := Or.inr ⟨RX3, TX3, 13, rfl, by decide, (iq_mt1 (i := 89) rfl rfl), ⟨rfl, rfl⟩⟩
theorem iq_f6_2 : iq_fok 6 (25, (1, 0, 0)) := Or.inr ⟨RX1, TX1, 9, rfl, by decide, (iq_mt1 (i := 173) rfl rfl), ⟨rfl, rfl⟩⟩
theorem iq_f6_3 : iq_fok 6 (21, (6, 0, 3)) := Or.inr ⟨RX6, TX6, 6, rfl, by decide, (iq_mt2 (i := 81) rfl rfl), ⟨rfl, _, tyX6_ok 0 (by decide), Or.inl ⟨_, rfl⟩⟩⟩
theorem iq_f6_4 : iq_fok 6 (9, (6, 1, 3)) := Or.inr ⟨RX6, TX6, 6, rfl, by decide, (iq_mt2 (i := 82) rfl rfl), ⟨rfl, _, tyX6_ok 1 (by decide), Or.inr ⟨_, rfl⟩⟩⟩
theorem iq_f6_5 : iq_fok 6 (15, (6, 2, 3)) := Or.inr ⟨RX6, TX6, 6, rfl, by decide, (iq_mt2 (i := 83) rfl rfl), ⟨rfl, _, tyX6_ok 2 (by decide), Or.inr ⟨_, rfl⟩⟩⟩
theorem iq_f6_6 : iq_fok 6 (18, (6, 3, 3)) := Or.inr ⟨RX6, TX6, 6, rfl, by decide, (iq_mt2 (i := 84) rfl rfl), ⟨rfl, _, tyX6_ok 3 (by decide), Or.inr ⟨_, rfl⟩⟩⟩
theorem iq_f6_7 : iq_fok 6 (97, (6, 4, 0)) := Or.inr ⟨RX6, TX6, 6, rfl, by decide, (iq_mt2 (i := 85) rfl rfl), ⟨rfl, rfl⟩⟩
theorem iq_f6_8 : iq_fok 6 (100, (6, 5, 0)) := Or.inr ⟨RX6, TX6, 6, rfl, by decide, (iq_mt2 (i := 86) rfl rfl), ⟨rfl, rfl⟩⟩
theorem iq_fds_6 : ∀ e ∈ iq_fds 6, iq_fok 6 e := List.forall_mem_cons.mpr ⟨iq_f6_0, List.forall_mem_cons.mpr ⟨iq_f6_1, List.forall_mem_cons.mpr ⟨iq_f6_2, List.forall_mem_cons.mpr ⟨iq_f6_3, List.forall_mem_cons.mpr ⟨iq_f6_4, List.forall_mem_cons.mpr ⟨iq_f6_5, List.forall_mem_cons.mpr ⟨iq_f6_6, List.forall_mem_cons.mpr ⟨iq_f6_7, List.forall_mem_cons.mpr ⟨iq_f6_8, fun _ h => absurd h List.not_mem_nil⟩⟩⟩⟩⟩⟩⟩⟩⟩
theorem iq_f7_0 : iq_fok 7 (24, (7, 0, 0)) := Or.inr ⟨RX7, TX7, 7, rfl, by decide, (iq_mt1 (i := 46) rfl rfl), ⟨rfl, rfl⟩⟩
theorem iq_f7_1 : iq_fok 7 (28, (7, 1, 1)) := Or.inr ⟨RX7, TX7, 7, rfl, by decide, (iq_mt1 (i := 50) rfl rfl), ⟨rfl, rfl⟩⟩
theorem iq_f7_2 : iq_fok 7 (32, (7, 2, 0)) := Or.inr ⟨RX7, TX7, 7, rfl, by decide, (iq_mt1 (i := 53) rfl rfl), ⟨rfl, rfl⟩⟩
theorem iq_f7_3 : iq_fok 7 (9, (7, 3, 3)) := Or.inr ⟨RX7, TX7, 7, rfl, by decide, (iq_mt1 (i := 54) rfl rfl), ⟨rfl, _, tyX7_ok 3 (by decide), Or.inr ⟨_, rfl⟩⟩⟩
theorem iq_f7_4 : iq_fok 7 (15, (7, 4, 3)) := Or.inr ⟨RX7, TX7, 7, rfl, by decide, (iq_mt1 (i := 55) rfl rfl), ⟨rfl, _, tyX7_ok 4 (by decide), Or.inr ⟨_, rfl⟩⟩⟩
theorem iq_f7_5 : iq_fok 7 (18, (7, 5, 3)) := Or.inr ⟨RX7, TX7, 7, rfl, by decide, (iq_mt1 (i := 56) rfl rfl), ⟨rfl, _, tyX7_ok 5 (by decide), Or.inr ⟨_, rfl⟩⟩⟩
theorem iq_f7_6 : iq_fok 7 (21, (7, 6, 3)) := Or.inr ⟨RX7, TX7, 7, rfl, by decide, (iq_mt1 (i := 57) rfl rfl), ⟨rfl, _, tyX7_ok 6 (by decide), Or.inr ⟨_, rfl⟩⟩⟩
theorem iq_fds_7 : ∀ e ∈ iq_fds 7, iq_fok 7 e := List.forall_mem_cons.mpr ⟨iq_f7_0, List.forall_mem_cons.mpr ⟨iq_f7_1, List.forall_mem_cons.mpr ⟨iq_f7_2, List.forall_mem_cons.mpr ⟨iq_f7_3, List.forall_mem_cons.mpr ⟨iq_f7_4, List.forall_mem_cons.mpr ⟨iq_f7_5, List.forall_mem_cons.mpr ⟨iq_f7_6, fun _ h => absurd h List.not_mem_nil⟩⟩⟩⟩⟩⟩⟩
theorem iq_f8_0 : iq_fok 8 (36, (8, 0, 0)) := Or.inr ⟨RX8, TX8, 5, rfl, by decide, (iq_mt1 (i := 227) rfl rfl), ⟨rfl, rfl⟩⟩
theorem iq_f8_1 : iq_fok 8 (29, (8, 1, 0)) := Or.inr ⟨RX8, TX8, 5, rfl, by decide, (iq_mt1 (i := 228) rfl rfl), ⟨rfl, rfl⟩⟩
theorem iq_f8_2 : iq_fok 8 (7, (8, 2, 3)) := Or.inr ⟨RX8, TX8, 5, rfl, by decide, (iq_mt1 (i := 230) rfl rfl), ⟨rfl, _, tyX8_ok 2 (by decide), Or.inr ⟨_, rfl⟩⟩⟩
theorem iq_f8_3 : iq_fok 8 (19, (8, 3, 0)) := Or.inr ⟨RX8, TX8, 5, rfl, by decide, (iq_mt1 (i := 231) rfl rfl), ⟨rfl, rfl⟩⟩
theorem iq_f8_4 : iq_fok 8 (23, (8, 4, 0)) := Or.inr ⟨RX8, TX8, 5, rfl, by decide, (iq_mt1 (i := 232) rfl rfl), ⟨rfl, rfl⟩⟩
theorem iq_fds_8 : ∀ e ∈ iq_fds 8, iq_fok 8 e := List.forall_mem_cons.mpr ⟨iq_f8_0, List.forall_mem_cons.mpr ⟨iq_f8_1, List.forall_mem_cons.mpr ⟨iq_f8_2, List.forall_mem_cons.mpr ⟨iq_f8_3, List.forall_mem_cons.mpr ⟨iq_f8_4, fun _ h => absurd h List.not_mem_nil⟩⟩⟩⟩⟩
theorem iq_f9_0 : iq_fok 9 (122, (7, 0, 0)) := Or.inr ⟨RX7, TX7, 7, rfl, by decide, (iq_mt1 (i := 47) rfl rfl), ⟨rfl, rfl⟩⟩
theorem iq_f9_1 : iq_fok 9 (106, (3, 0, 0)) := Or.inr ⟨RX3, TX3, 13, rfl, by decide, (iq_mt1 (i := 81) rfl rfl), ⟨rfl, rfl⟩⟩
theorem iq_f9_2 : iq_fok 9 (146, (3, 1, 0)) := Or.inr ⟨RX3, TX3, 13, rfl, by decide, (iq_mt1 (i := 83) rfl rfl), ⟨rfl, rfl⟩⟩
theorem iq_f9_3 : iq_fok 9 (109, (3, 2, 0)) := Or.inr ⟨RX3, TX3, 13, rfl, by decide, (iq_mt1 (i := 87) rfl rfl), ⟨rfl, rfl⟩⟩
theorem iq_f9_4 : iq_fok 9 (112, (3, 3, 0)) := Or.inr ⟨RX3, TX3, 13, rfl, by decide, (iq_mt1 (i := 92) rfl rfl), ⟨rfl, rfl⟩⟩
theorem iq_f9_5 : iq_fok 9 (161, (3, 6, 3)) := Or.inr ⟨RX3, TX3, 13, rfl, by decide, (iq_mt1 (i := 99) rfl rfl), ⟨rfl, _, tyX3_ok 6 (by decide), Or.inr ⟨_, rfl⟩⟩⟩
theorem iq_f9_6 : iq_fok 9 (170, (3, 7, 3)) := Or.inr ⟨RX3, TX3, 13, rfl, by decide, (iq_mt1 (i := 101) rfl rfl), ⟨rfl, _, tyX3_ok 7 (by decide), Or.inr ⟨_, rfl⟩⟩⟩
theorem iq_f9_7 : iq_fok 9 (118, (3, 9, 3)) := Or.inr ⟨RX3, TX3, 13, rfl, by decide, (iq_mt1 (i := 106) rfl rfl), ⟨rfl, _, tyX3_ok 9 (by decide), Or.inl ⟨_, rfl⟩⟩⟩
theorem iq_f9_8 : iq_fok 9 (134, (0, 0, 0)) := Or.inr ⟨RX0, TX0, 5, rfl, by decide, (iq_mt1 (i := 152) rfl rfl), ⟨rfl, rfl⟩⟩
theorem iq_f9_9 : iq_fok 9 (115, (1, 0, 0)) := Or.inr ⟨RX1, TX1, 9, rfl, by decide, (iq_mt1 (i := 174) rfl rfl), ⟨rfl, rfl⟩⟩
theorem iq_f9_10 : iq_fok 9 (127, (1, 1, 0)) := Or.inr ⟨RX1, TX1, 9, rfl, by decide, (iq_mt1 (i := 180) rfl rfl), ⟨rfl, rfl⟩⟩
theorem iq_f9_11 : iq_fok 9 (139, (1, 2, 0)) := Or.inr ⟨RX1, TX1, 9, rfl, by decide, (iq_mt1 (i := 182) rfl rfl), ⟨rfl, rfl⟩⟩
theorem iq_f9_12 : iq_fok 9 (190, (1, 3, 3)) := Or.inr ⟨RX1, TX1, 9, rfl, by decide, (iq_mt1 (i := 185) rfl rfl), ⟨rfl, _, tyX1_ok 3 (by decide), Or.inr ⟨_, rfl⟩⟩⟩
theorem iq_f9_13 : iq_fok 9 (185, (1, 4, 3)) := Or.inr ⟨RX1, TX1, 9, rfl, by decide, (iq_mt1 (i := 187) rfl rfl), ⟨rfl, _, tyX1_ok 4 (by decide), Or.inr ⟨_, rfl⟩⟩⟩
theorem iq_f9_14 : iq_fok 9 (130, (1, 5, 3)) := Or.inr ⟨RX1, TX1, 9, rfl, by decide, (iq_mt1 (i := 189) rfl rfl), ⟨rfl, _, tyX1_ok 5 (by decide), Or.inl ⟨_, rfl⟩⟩⟩
theorem iq_f9_15 : iq_fok 9 (93, (5, 0, 0)) := Or.inr ⟨RX5, TX5, 5, rfl, by decide, (iq_mt2 (i := 5) rfl rfl), ⟨rfl, rfl⟩⟩
theorem iq_f9_16 : iq_fok 9 (9, (9, 0, 3)) := Or.inr ⟨RX9, TX9, 14, rfl, by decide, (iq_mt2 (i := 100) rfl rfl), ⟨rfl, _, tyX9_ok 0 (by decide), Or.inr ⟨_, rfl⟩⟩⟩
theorem iq_f9_17 : iq_fok 9 (13, (9, 1, 3)) := Or.inr ⟨RX9, TX9, 14, rfl, by decide, (iq_mt2 (i := 101) rfl rfl), ⟨rfl, _, tyX9_ok 1 (by decide), Or.inr ⟨_, rfl⟩⟩⟩
theorem iq_f9_18 : iq_fok 9 (19, (9, 2, 3)) := Or.inr ⟨RX9, TX9, 14, rfl, by decide, (iq_mt2 (i := 102) rfl rfl), ⟨rfl, _, tyX9_ok 2 (by decide), Or.inl ⟨_, rfl⟩⟩⟩
theorem iq_f9_19 : iq_fok 9 (26, (9, 3, 3)) := Or.inr ⟨RX9, TX9, 14, rfl, by decide, (iq_mt2 (i := 103) rfl rfl), ⟨rfl, _, tyX9_ok 3 (by decide), Or.inl ⟨_, rfl⟩⟩⟩
theorem iq_f9_20 : iq_fok 9 (30, (9, 4, 3)) := Or.inr ⟨RX9, TX9, 14, rfl, by decide, (iq_mt2 (i := 104) rfl rfl), ⟨rfl, _, tyX9_ok 4 (by decide), Or.inl ⟨_, rfl⟩⟩⟩
theorem iq_f9_21 : iq_fok 9 (33, (9, 5, 3)) := Or.inr ⟨RX9, TX9, 14, rfl, by decide, (iq_mt2 (i := 105) rfl rfl), ⟨rfl, _, tyX9_ok 5 (by decide), Or.inl ⟨_, rfl⟩⟩⟩
theorem iq_f9_22 : iq_fok 9 (36, (9, 6, 3)) := Or.inr ⟨RX9, TX9, 14, rfl, by decide, (iq_mt2 (i := 106) rfl rfl), ⟨rfl, _, tyX9_ok 6 (by decide), Or.inl ⟨_, rfl⟩⟩⟩
theorem iq_f9_23 : iq_fok 9 (44, (9, 7, 3)) := Or.inr ⟨RX9, TX9, 14, rfl, by decide, (iq_mt2 (i := 107) rfl rfl), ⟨rfl, _, tyX9_ok 7 (by decide), Or.inl ⟨_, rfl⟩⟩⟩
theorem iq_f9_24 : iq_fok 9 (53, (9, 8, 3)) := Or.inr ⟨RX9, TX9, 14, rfl, by decide, (iq_mt2 (i := 108) rfl rfl), ⟨rfl, _, tyX9_ok 8 (by decide), Or.inl ⟨_, rfl⟩⟩⟩
theorem iq_f9_25 : iq_fok 9 (60, (9, 9, 3)) := Or.inr ⟨RX9, TX9, 14, rfl, by decide, (iq_mt2 (i := 109) rfl rfl), ⟨rfl, _, tyX9_ok 9 (by decide), Or.inl ⟨_, rfl⟩⟩⟩
theorem iq_f9_26 : iq_fok 9 (67, (9, 10, 3)) := Or.inr ⟨RX9, TX9, 14, rfl, by decide, (iq_mt2 (i := 110) rfl rfl), ⟨rfl, _, tyX9_ok 10 (by decide), Or.inl ⟨_, rfl⟩⟩⟩
theorem iq_f9_27 : iq_fok 9 (75, (9, 11, 0)) := Or.inr ⟨RX9, TX9, 14, rfl, by decide, (iq_mt2 (i := 111) rfl rfl), ⟨rfl, rfl⟩⟩
theorem iq_f9_28 : iq_fok 9 (71, (9, 12, 0)) := Or.inr ⟨RX9, TX9, 14, rfl, by decide, (iq_mt2 (i := 112) rfl rfl), ⟨rfl, rfl⟩⟩
theorem iq_f9_29 : iq_fok 9 (102, (9, 13, 1)) := Or.inr ⟨RX9, TX9, 14, rfl, by decide, (iq_mt2 (i := 113) rfl rfl), ⟨rfl, rfl⟩⟩
theorem iq_fds_9 : ∀ e ∈ iq_fds 9, iq_fok 9 e := List.forall_mem_cons.mpr ⟨iq_f9_0, List.forall_mem_cons.mpr ⟨iq_f9_1, List.forall_mem_cons.mpr ⟨iq_f9_2, List.forall_mem_cons.mpr ⟨iq_f9_3, List.forall_mem_cons.mpr ⟨iq_f9_4, List.forall_mem_cons.mpr ⟨iq_f9_5, List.forall_mem_cons.mpr ⟨iq_f9_6, List.forall_mem_cons.mpr ⟨iq_f9_7, List.forall_mem_cons.mpr ⟨iq_f9_8, List.forall_mem_cons.mpr ⟨iq_f9_9, List.forall_mem_cons.mpr ⟨iq_f9_10, List.forall_mem_cons.mpr ⟨iq_f9_11, List.forall_mem_cons.mpr ⟨iq_f9_12, List.forall_mem_cons.mpr ⟨iq_f9_13, List.forall_mem_cons.mpr ⟨iq_f9_14, List.forall_mem_cons.mpr ⟨iq_f9_15, List.forall_mem_cons.mpr ⟨iq_f9_16, List.forall_mem_cons.mpr ⟨iq_f9_17, List.forall_mem_cons.mpr ⟨iq_f9_18, List.forall_mem_cons.mpr ⟨iq_f9_19, List.forall_mem_cons.mpr ⟨iq_f9_20, List.forall_mem_cons.mpr ⟨iq_f9_21, List.forall_mem_cons.mpr ⟨iq_f9_22, List.forall_mem_cons.mpr ⟨iq_f9_23, List.forall_mem_cons.mpr ⟨iq_f9_24, List.forall_mem_cons.mpr ⟨iq_f9_25, List.forall_mem_cons.mpr ⟨iq_f9_26, List.forall_mem_cons.mpr ⟨iq_f9_27, List.forall_mem_cons.mpr ⟨iq_f9_28, List.forall_mem_cons.mpr ⟨iq_f9_29, fun _ h => absurd h List.not_mem_nil⟩⟩⟩⟩⟩⟩⟩⟩⟩⟩⟩⟩⟩⟩⟩⟩⟩⟩⟩⟩⟩⟩⟩⟩⟩⟩⟩⟩⟩⟩
theorem iq_f10_0 : iq_fok 10 (130, (10, 0, 0)) := Or.inr ⟨RX10, TX10, 74, rfl, by decide, (iq_mt7 (i := 73) rfl rfl), ⟨rfl, rfl⟩⟩
theorem iq_f10_1 : iq_fok 10 (309, (10, 1, 0)) := Or.inr ⟨RX10, TX10, 74, rfl, by decide, (iq_mt7 (i := 74) rfl rfl), ⟨rfl, rfl⟩⟩
theorem iq_f10_2 : iq_fok 10 (312, (10, 2, 0)) := Or.inr ⟨RX10, TX10, 74, rfl, by decide, (iq_mt7 (i := 75) rfl rfl), ⟨rfl, rfl⟩⟩
theorem iq_f10_3 : iq_fok 10 (315, (10, 3, 0)) := Or.inr ⟨RX10, TX10, 74, rfl, by decide, (iq_mt7 (i := 76) rfl rfl), ⟨rfl, rfl⟩⟩
theorem iq_f10_4 : iq_fok 10 (318, (10, 4, 0)) := Or.inr ⟨RX10, TX10, 74, rfl, by decide, (iq_mt7 (i := 77) rfl rfl), ⟨rfl, rfl⟩⟩
theorem iq_f10_5 : iq_fok 10 (321, (10, 5, 0)) := Or.inr ⟨RX10, TX10, 74, rfl, by decide, (iq_mt7 (i := 78) rfl rfl), ⟨rfl, rfl⟩⟩
theorem iq_f10_6 : iq_fok 10 (9, (10, 6, 0)) := Or.inr ⟨RX10, TX10, 74, rfl, by decide, (iq_mt7 (i := 79) rfl rfl), ⟨rfl, rfl⟩⟩
theorem iq_f10_7 : iq_fok 10 (324, (10, 7, 0)) := Or.inr ⟨RX10, TX10, 74, rfl, by decide, (iq_mt7 (i := 80) rfl rfl), ⟨rfl, rfl⟩⟩
theorem iq_f10_8 : iq_fok 10 (13, (10, 8, 3)) := Or.inr ⟨RX10, TX10, 74, rfl, by decide, (iq_mt7 (i := 81) rfl rfl), ⟨rfl, _, tyX10_ok 8 (by decide), Or.inr ⟨_, rfl⟩⟩⟩
theorem iq_f10_9 : iq_fok 10 (17, (10, 9, 3)) := Or.inr ⟨RX10, TX10, 74, rfl, by decide, (iq_mt7 (i := 82) rfl rfl), ⟨rfl, _, tyX10_ok 9 (by decide), Or.inr ⟨_, rfl⟩⟩⟩
theorem iq_f10_10 : iq_fok 10 (20, (10, 10, 3)) := Or.inr ⟨RX10, TX10, 74, rfl, by decide, (iq_mt7 (i := 83) rfl rfl), ⟨rfl, _, tyX10_ok 10 (by decide), Or.inr ⟨_, rfl⟩⟩⟩
theorem iq_f10_11 : iq_fok 10 (23, (10, 11, 3)) := Or.inr ⟨RX10, TX10, 74, rfl, by decide, (iq_mt7 (i := 84) rfl rfl), ⟨rfl, _, tyX10_ok 11 (by decide), Or.inr ⟨_, rfl⟩⟩⟩
theorem iq_f10_12 : iq_fok 10 (26, (10, 12, 3)) := Or.inr ⟨RX10, TX10, 74, rfl, by decide, (iq_mt7 (i := 85) rfl rfl), ⟨rfl, _, tyX10_ok 12 (by decide), Or.inr ⟨_, rfl⟩⟩⟩
theorem iq_f10_13 : iq_fok 10 (29, (10, 13, 3)) := Or.inr ⟨RX10, TX10, 74, rfl, by decide, (iq_mt7 (i := 86) rfl rfl), ⟨rfl, _, tyX10_ok 13 (by decide), Or.inr ⟨_, rfl⟩⟩⟩
theorem iq_f10_14 : iq_fok 10 (32, (10, 14, 3)) := Or.inr ⟨RX10, TX10, 74, rfl, by decide, (iq_mt7 (i := 87) rfl rfl), ⟨rfl, _, tyX10_ok 14 (by decide), Or.inr ⟨_, rfl⟩⟩⟩
theorem iq_f10_15 : iq_fok 10 (35, (10, 15, 3)) := Or.inr ⟨RX10, TX10, 74, rfl, by decide, (iq_mt7 (i := 88) rfl rfl), ⟨rfl, _, tyX10_ok 15 (by decide), Or.inr ⟨_, rfl⟩⟩⟩
theorem iq_f10_16 : iq_fok 10 (38, (10, 16, 3)) := Or.inr ⟨RX10, TX10, 74, rfl, by decide, (iq_mt7 (i := 89) rfl rfl), ⟨rfl, _, tyX10_ok 16 (by decide), Or.inr ⟨_, rfl⟩⟩⟩
theorem iq_f10_17 : iq_fok 10 (133, (10, 17, 0)) := Or.inr ⟨RX10, TX10, 74, rfl, by decide, (iq_mt7 (i := 90) rfl rfl), ⟨rfl, rfl⟩⟩
theorem iq_f10_18 : iq_fok 10 (186, (10, 18, 0)) := Or.inr ⟨RX10, TX10, 74, rfl, by decide, (iq_mt7 (i := 91) rfl rfl), ⟨rfl, rfl⟩⟩
theorem iq_f10_19 : iq_fok 10 (41, (10, 19, 0)) := Or.inr ⟨RX10, TX10, 74, rfl, by decide, (iq_mt7 (i := 92) rfl rfl), ⟨rfl, rfl⟩⟩
theorem iq_f10_20 : iq_fok 10 (44, (10, 20, 3)) := Or.inr ⟨RX10, TX10, 74, rfl, by decide, (iq_mt7 (i := 93) rfl rfl), ⟨rfl, _, tyX10_ok 20 (by decide), Or.inr ⟨_, rfl⟩⟩⟩
theorem iq_f10_21 : iq_fok 10 (140, (10, 21, 0)) := Or.inr ⟨RX10, TX10, 74, rfl, by decide, (iq_mt7 (i := 94) rfl rfl), ⟨rfl, rfl⟩⟩
theorem iq_f10_22 : iq_fok 10 (143, (10, 22, 0)) := Or.inr ⟨RX10, TX10, 74, rfl, by decide, (iq_mt7 (i := 95) rfl rfl), ⟨rfl, rfl⟩⟩
theorem iq_f10_23 : iq_fok 10 (163, (10, 23, 0)) := Or.inr ⟨RX10, TX10, 74, rfl, by decide, (iq_mt7 (i := 96) rfl rfl), ⟨rfl, rfl⟩⟩
theorem iq_f10_24 : iq_fok 10 (150, (10, 24, 0)) := Or.inr ⟨RX10, TX10, 74, rfl, by decide, (iq_mt7 (i := 97) rfl rfl), ⟨rfl, rfl⟩⟩
theorem iq_f10_25 : iq_fok 10 (173, (10, 25, 0)) := Or.inr ⟨RX10, TX10, 74, rfl, by decide, (iq_mt7 (i := 98) rfl rfl), ⟨rfl, rfl⟩⟩
theorem iq_f10_26 : iq_fok 10 (157, (10, 26, 0)) := Or.inr ⟨RX10, TX10, 74, rfl, by decide, (iq_mt7 (i := 99) rfl rfl), ⟨rfl, rfl⟩⟩
theorem iq_f10_27 : iq_fok 10 (160, (10, 27, 0)) := Or.inr ⟨RX10, TX10, 74, rfl, by decide, (iq_mt7 (i := 100) rfl rfl), ⟨rfl, rfl⟩⟩
theorem iq_f10_28 : iq_fok 10 (153, (10, 28, 2)) := Or.inr ⟨RX10, TX10, 74, rfl, by decide, (iq_mt7 (i := 101) rfl rfl), ⟨rfl, rfl⟩⟩
theorem iq_f10_29 : iq_fok 10 (266, (10, 29, 0)) := Or.inr ⟨RX10, TX10, 74, rfl, by decide, (iq_mt7 (i := 102) rfl rfl), ⟨rfl, rfl⟩⟩
theorem iq_f10_30 : iq_fok 10 (253, (10, 30, 0)) := Or.inr ⟨RX10, TX10, 74, rfl, by decide, (iq_mt7 (i := 103) rfl rfl), ⟨rfl, rfl⟩⟩
theorem iq_f10_31 : iq_fok 10 (263, (10, 31, 0)) := Or.inr ⟨RX10, TX10, 74, rfl, by decide, (iq_mt7 (i := 104) rfl rfl), ⟨rfl, rfl⟩⟩
theorem iq_f10_32 : iq_fok 10 (290, (10, 32, 0)) := Or.inr ⟨RX10, TX10, 74, rfl, by decide, (iq_mt7 (i := 105) rfl rfl), ⟨rfl, rfl⟩⟩
theorem iq_f10_33 : iq_fok 10 (272, (10, 33, 0)) := Or.inr ⟨RX10, TX10, 74, rfl, by decide, (iq_mt7 (i := 106) rfl rfl), ⟨rfl, rfl⟩⟩
theorem iq_f10_34 : iq_fok 10 (296, (10, 34, 0)) := Or.inr ⟨RX10, TX10, 74, rfl, by decide, (iq_mt7 (i := 107) rfl rfl), ⟨rfl, rfl⟩⟩
theorem iq_f10_35 : iq_fok 10 (275, (10, 35, 0)) := Or.inr ⟨RX10, TX10, 74, rfl, by decide, (iq_mt7 (i := 108) rfl rfl), ⟨rfl, rfl⟩⟩
theorem iq_f10_36 : iq_fok 10 (284, (10, 36, 0)) := Or.inr ⟨RX10, TX10, 74, rfl, by decide, (iq_mt7 (i := 109) rfl rfl), ⟨rfl, rfl⟩⟩
theorem iq_f10_37 : iq_fok 10 (206, (10, 37, 0)) := Or.inr ⟨RX10, TX10, 74, rfl, by decide, (iq_mt7 (i := 110) rfl rfl), ⟨rfl, rfl⟩⟩
theorem iq_f10_38 : iq_fok 10 (209, (10, 38, 0)) := Or.inr ⟨RX10, TX10, 74, rfl, by decide, (iq_mt7 (i := 111) rfl rfl), ⟨rfl, rfl⟩⟩
theorem iq_f10_39 : iq_fok 10 (225, (10, 39, 0)) := Or.inr ⟨RX10, TX10, 74, rfl, by decide, (iq_mt7 (i := 112) rfl rfl), ⟨rfl, rfl⟩⟩
theorem iq_f10_40 : iq_fok 10 (47, (10, 40, 3)) := Or.inr ⟨RX10, TX10, 74, rfl, by decide, (iq_mt7 (i := 113) rfl rfl), ⟨rfl, _, tyX10_ok 40 (by decide), Or.inr ⟨_, rfl⟩⟩⟩
theorem iq_f10_41 : iq_fok 10 (50, (10, 41, 3)) := Or.inr ⟨RX10, TX10, 74, rfl, by decide, (iq_mt7 (i := 114) rfl rfl), ⟨rfl, _, tyX10_ok 41 (by decide), Or.inr ⟨_, rfl⟩⟩⟩
theorem iq_f10_42 : iq_fok 10 (53, (10, 42, 3)) := Or.inr ⟨RX10, TX10, 74, rfl, by decide, (iq_mt7 (i := 115) rfl rfl), ⟨rfl, _, tyX10_ok 42 (by decide), Or.inr ⟨_, rfl⟩⟩⟩
theorem iq_f10_43 : iq_fok 10 (56, (10, 43, 3)) := Or.inr ⟨RX10, TX10, 74, rfl, by decide, (iq_mt7 (i := 116) rfl rfl), ⟨rfl, _, tyX10_ok 43 (by decide), Or.inr ⟨_, rfl⟩⟩⟩
theorem iq_f10_44 : iq_fok 10 (59, (10, 44, 3)) := Or.inr ⟨RX10, TX10, 74, rfl, by decide, (iq_mt7 (i := 117) rfl rfl), ⟨rfl, _, tyX10_ok 44 (by decide), Or.inr ⟨_, rfl⟩⟩⟩
theorem iq_f10_45 : iq_fok 10 (62, (10, 45, 3)) := Or.inr ⟨RX10, TX10, 74, rfl, by decide, (iq_mt7 (i := 118) rfl rfl), ⟨rfl, _, tyX10_ok 45 (by decide), Or.inr ⟨_, rfl⟩⟩⟩
theorem iq_f10_46 : iq_fok 10 (65, (10, 46, 3)) := Or.inr ⟨RX10, TX10, 74, rfl, by decide, (iq_mt7 (i := 119) rfl rfl), ⟨rfl, _, tyX10_ok 46 (by decide), Or.inr ⟨_, rfl⟩⟩⟩
theorem iq_f10_47 : iq_fok 10 (68, (10, 47, 3)) := Or.inr ⟨RX10, TX10, 74, rfl, by decide, (iq_mt7 (i := 120) rfl rfl), ⟨rfl, _, tyX10_ok 47 (by decide), Or.inr ⟨_, rfl⟩⟩⟩
theorem iq_f10_48 : iq_fok 10 (71, (10, 48, 3)) := Or.inr ⟨RX10, TX10, 74, rfl, by decide, (iq_mt7 (i := 121) rfl rfl), ⟨rfl, _, tyX10_ok 48 (by decide), Or.inr ⟨_, rfl⟩⟩⟩
theorem iq_f10_49 : iq_fok 10 (74, (10, 49, 3)) := Or.inr ⟨RX10, TX10, 74, rfl, by decide, (iq_mt7 (i := 122) rfl rfl), ⟨rfl, _, tyX10_ok 49 (by decide), Or.inr ⟨_, rfl⟩⟩⟩
theorem iq_f10_50 : iq_fok 10 (77, (10, 50, 3)) := Or.inr ⟨RX10, TX10, 74, rfl, by decide, (iq_mt7 (i := 123) rfl rfl), ⟨rfl, _, tyX10_ok 50 (by decide), Or.inr ⟨_, rfl⟩⟩⟩
theorem iq_f10_51 : iq_fok 10 (81, (10, 51, 3)) := Or.inr ⟨RX10, TX10, 74, rfl, by decide, (iq_mt7 (i := 124) rfl rfl), ⟨rfl, _, tyX10_ok 51 (by decide), Or.inr ⟨_, rfl⟩⟩⟩
theorem iq_f10_52 : iq_fok 10 (84, (10, 52, 3)) := Or.inr ⟨RX10, TX10, 74, rfl, by decide, (iq_mt7 (i := 125) rfl rfl), ⟨rfl, _, tyX10_ok 52 (by decide), Or.inr ⟨_, rfl⟩⟩⟩
theorem iq_f10_53 : iq_fok 10 (87, (10, 53, 3)) := Or.inr ⟨RX10, TX10, 74, rfl, by decide, (iq_mt7 (i := 126) rfl rfl), ⟨rfl, _, tyX10_ok 53 (by decide), Or.inr ⟨_, rfl⟩⟩⟩
theorem iq_f10_54 : iq_fok 10 (331, (10, 54, 0)) := Or.inr ⟨RX10, TX10, 74, rfl, by decide, (iq_mt7 (i := 127) rfl rfl), ⟨rfl, rfl⟩⟩
theorem iq_f10_55 : iq_fok 10 (90, (10, 55, 3)) := Or.inr ⟨RX10, TX10, 74, rfl, by decide, (iq_mt7 (i := 128) rfl rfl), ⟨rfl, _, tyX10_ok 55 (by decide), Or.inr ⟨_, rfl⟩⟩⟩
theorem iq_f10_56 : iq_fok 10 (93, (10, 56, 3)) := Or.inr ⟨RX10, TX10, 74, rfl, by decide, (iq_mt7 (i := 129) rfl rfl), ⟨rfl, _, tyX10_ok 56 (by decide), Or.inr ⟨_, rfl⟩⟩⟩
theorem iq_f10_57 : iq_fok 10 (409, (10, 57, 0)) := Or.inr ⟨RX10, TX10, 74, rfl, by decide, (iq_mt7 (i := 130) rfl rfl), ⟨rfl, rfl⟩⟩
theorem iq_f10_58 : iq_fok 10 (96, (10, 58, 3)) := Or.inr ⟨RX10, TX10, 74, rfl, by decide, (iq_mt7 (i := 131) rfl rfl), ⟨rfl, _, tyX10_ok 58 (by decide), Or.inr ⟨_, rfl⟩⟩⟩
theorem iq_f10_59 : iq_fok 10 (99, (10, 59, 3)) := Or.inr ⟨RX10, TX10, 74, rfl, by decide, (iq_mt7 (i := 132) rfl rfl), ⟨rfl, _, tyX10_ok 59 (by decide), Or.inr ⟨_, rfl⟩⟩⟩
theorem iq_f10_60 : iq_fok 10 (103, (10, 60, 3)) := Or.inr ⟨RX10, TX10, 74, rfl, by decide, (iq_mt7 (i := 133) rfl rfl), ⟨rfl, _, tyX10_ok 60 (by decide), Or.inr ⟨_, rfl⟩⟩⟩
theorem iq_f10_61 : iq_fok 10 (106, (10, 61, 3)) := Or.inr ⟨RX10, TX10, 74, rfl, by decide, (iq_mt7 (i := 134) rfl rfl), ⟨rfl, _, tyX10_ok 61 (by decide), Or.inr ⟨_, rfl⟩⟩⟩
theorem iq_f10_62 : iq_fok 10 (109, (10, 62, 3)) := Or.inr ⟨RX10, TX10, 74, rfl, by decide, (iq_mt7 (i := 135) rfl rfl), ⟨rfl, _, tyX10_ok 62 (by decide), Or.inr ⟨_, rfl⟩⟩⟩
theorem iq_f10_63 : iq_fok 10 (334, (10, 63, 0)) := Or.inr ⟨RX10, TX10, 74, rfl, by decide, (iq_mt7 (i := 136) rfl rfl), ⟨rfl, rfl⟩⟩
theorem iq_f10_64 : iq_fok 10 (112, (10, 64, 3)) := Or.inr ⟨RX10, TX10, 74, rfl, by decide, (iq_mt7 (i := 137) rfl rfl), ⟨rfl, _, tyX10_ok 64 (by decide), Or.inr ⟨_, rfl⟩⟩⟩
theorem iq_f10_65 : iq_fok 10 (115, (10, 65, 3)) := Or.inr ⟨RX10, TX10, 74, rfl, by decide, (iq_mt7 (i := 138) rfl rfl), ⟨rfl, _, tyX10_ok 65 (by decide), Or.inr ⟨_, rfl⟩⟩⟩
theorem iq_f10_66 : iq_fok 10 (118, (10, 66, 3)) := Or.inr ⟨RX10, TX10, 74, rfl, by decide, (iq_mt7 (i := 139) rfl rfl), ⟨rfl, _, tyX10_ok 66 (by decide), Or.inr ⟨_, rfl⟩⟩⟩
theorem iq_f10_67 : iq_fok 10 (458, (10, 67, 0)) := Or.inr ⟨RX10, TX10, 74, rfl, by decide, (iq_mt7 (i := 140) rfl rfl), ⟨rfl, rfl⟩⟩
theorem iq_f10_68 : iq_fok 10 (337, (10, 68, 1)) := Or.inr ⟨RX10, TX10, 74, rfl, by decide, (iq_mt7 (i := 141) rfl rfl), ⟨rfl, rfl⟩⟩
theorem iq_f10_69 : iq_fok 10 (465, (10, 69, 0)) := Or.inr ⟨RX10, TX10, 74, rfl, by decide, (iq_mt7 (i := 142) rfl rfl), ⟨rfl, rfl⟩⟩
theorem iq_f10_70 : iq_fok 10 (468, (10, 70, 0)) := Or.inr ⟨RX10, TX10, 74, rfl, by decide, (iq_mt7 (i := 143) rfl rfl), ⟨rfl, rfl⟩⟩
theorem iq_f10_71 : iq_fok 10 (121, (10, 71, 3)) := Or.inr ⟨RX10, TX10, 74, rfl, by decide, (iq_mt7 (i := 144) rfl rfl), ⟨rfl, _, tyX10_ok 71 (by decide), Or.inr ⟨_, rfl⟩⟩⟩
theorem iq_f10_72 : iq_fok 10 (124, (10, 72, 3)) := Or.inr ⟨RX10, TX10, 74, rfl, by decide, (iq_mt7 (i := 145) rfl rfl), ⟨rfl, _, tyX10_ok 72 (by decide), Or.inr ⟨_, rfl⟩⟩⟩
theorem iq_f10_73 : iq_fok 10 (127, (10, 73, 3)) := Or.inr ⟨RX10, TX10, 74, rfl, by decide, (iq_mt7 (i := 146) rfl rfl), ⟨rfl, _, tyX10_ok 73 (by decide), Or.inr ⟨_, rfl⟩⟩⟩
theorem iq_fds_10 : ∀ e ∈ iq_fds 10, iq_fok 10 e := List.forall_mem_cons.mpr ⟨iq_f10_0, List.forall_mem_cons.mpr ⟨iq_f10_1, List.forall_mem_cons.mpr ⟨iq_f10_2, List.forall_mem_cons.mpr ⟨iq_f10_3, List.forall_mem_cons.mpr ⟨iq_f10_4, List.forall_mem_cons.mpr ⟨iq_f10_5, List.forall_mem_cons.mpr ⟨iq_f10_6, List.forall_mem_cons.mpr ⟨iq_f10_7, List.forall_mem_cons.mpr ⟨iq_f10_8, List.forall_mem_cons.mpr ⟨iq_f10_9, List.forall_mem_cons.mpr ⟨iq_f10_10, List.forall_mem_cons.mpr ⟨iq_f10_11, List.forall_mem_cons.mpr ⟨iq_f10_12, List.forall_mem_cons.mpr ⟨iq_f10_13, List.forall_mem_cons.mpr ⟨iq_f10_14, List.forall_mem_cons.mpr ⟨iq_f10_15, List.forall_mem_cons.mpr ⟨iq_f10_16, List.forall_mem_cons.mpr ⟨iq_f10_17, List.forall_mem_cons.mpr ⟨iq_f10_18, List.forall_mem_cons.mpr ⟨iq_f10_19, List.forall_mem_cons.mpr ⟨iq_f10_20, List.forall_mem_cons.mpr ⟨iq_f10_21, List.forall_mem_cons.mpr ⟨iq_f10_22, List.forall_mem_cons.mpr ⟨iq_f10_23, List.forall_mem_cons.mpr ⟨iq_f10_24, List.forall_mem_cons.mpr ⟨iq_f10_25, List.forall_mem_cons.mpr ⟨iq_f10_26, List.forall_mem_cons.mpr ⟨iq_f10_27, List.forall_mem_cons.mpr ⟨iq_f10_28, List.forall_mem_cons.mpr ⟨iq_f10_29, List.forall_mem_cons.mpr ⟨iq_f10_30, List.forall_mem_cons.mpr ⟨iq_f10_31, List.forall_mem_cons.mpr ⟨iq_f10_32, List.forall_mem_cons.mpr ⟨iq_f10_33, List.forall_mem_cons.mpr ⟨iq_f10_34, List.forall_mem_cons.mpr ⟨iq_f10_35, List.forall_mem_cons.mpr ⟨iq_f10_36, List.forall_mem_cons.mpr ⟨iq_f10_37, List.forall_mem_cons.mpr ⟨iq_f10_38, List.forall_mem_cons.mpr ⟨iq_f10_39, List.forall_mem_cons.mpr ⟨iq_f10_40, List.forall_mem_cons.mpr ⟨iq_f10_41, List.forall_mem_cons.mpr ⟨iq_f10_42, List.forall_mem_cons.mpr ⟨iq_f10_43, List.forall_mem_cons.mpr ⟨iq_f10_44, List.forall_mem_cons.mpr ⟨iq_f10_45, List.forall_mem_cons.mpr ⟨iq_f10_46, List.forall_mem_cons.mpr ⟨iq_f10_47, List.forall_mem_cons.mpr ⟨iq_f10_48, List.forall_mem_cons.mpr ⟨iq_f10_49, List.forall_mem_cons.mpr ⟨iq_f10_50, List.forall_mem_cons.mpr ⟨iq_f10_51, List.forall_mem_cons.mpr ⟨iq_f10_52, List.forall_mem_cons.mpr ⟨iq_f10_53, List.forall_mem_cons.mpr ⟨iq_f10_54, List.forall_mem_cons.mpr ⟨iq_f10_55, List.forall_mem_cons.mpr ⟨iq_f10_56, List.forall_mem_cons.mpr ⟨iq_f10_57, List.forall_mem_cons.mpr ⟨iq_f10_58, List.forall_mem_cons.mpr ⟨iq_f10_59, List.forall_mem_cons.mpr ⟨iq_f10_60, List.forall_mem_cons.mpr ⟨iq_f10_61, List.forall_mem_cons.mpr ⟨iq_f10_62, List.forall_mem_cons.mpr ⟨iq_f10_63, List.forall_mem_cons.mpr ⟨iq_f10_64, List.forall_mem_cons.mpr ⟨iq_f10_65, List.forall_mem_cons.mpr ⟨iq_f10_66, List.forall_mem_cons.mpr ⟨iq_f10_67, List.forall_mem_cons.mpr ⟨iq_f10_68, List.forall_mem_cons.mpr ⟨iq_f10_69, List.forall_mem_cons.mpr ⟨iq_f10_70, List.forall_mem_cons.mpr ⟨iq_f10_71, List.forall_mem_cons.mpr ⟨iq_f10_72, List.forall_mem_cons.mpr ⟨iq_f10_73, fun _ h => absurd h List.not_mem_nil⟩⟩⟩⟩⟩⟩⟩⟩⟩⟩⟩⟩⟩⟩⟩⟩⟩⟩⟩⟩⟩⟩⟩⟩⟩⟩⟩⟩⟩⟩⟩⟩⟩⟩⟩⟩⟩⟩⟩⟩⟩⟩⟩⟩⟩⟩⟩⟩⟩⟩⟩⟩⟩⟩⟩⟩⟩⟩⟩⟩⟩⟩⟩⟩⟩⟩⟩⟩⟩⟩⟩⟩⟩⟩
theorem iq_f14_0 : iq_fok 14 (15, (20, 1, 0)) := Or.inl rfl
theorem iq_f14_1 : iq_fok 14 (9, (20, 0, 3)) := Or.inl rfl
theorem iq_fds_14 : ∀ e ∈ iq_fds 14, iq_fok 14 e := List.forall_mem_cons.mpr ⟨iq_f14_0, List.forall_mem_cons.mpr ⟨iq_f14_1, fun _ h => absurd h List.not_mem_nil⟩⟩
theorem iq_fds_ok : ∀ (ow : Nat), ∀ e ∈ iq_fds ow, iq_fok ow e
  | 0 => iq_fds_0
  | 1 => iq_fds_1
  | 2 => iq_fds_2
  | 3 => iq_fds_3
  | 4 => iq_fds_4
  | 5 => iq_fds_5
  | 6 => iq_fds_6
  | 7 => iq_fds_7
  | 8 => iq_fds_8
  | 9 => iq_fds_9
  | 10 => iq_fds_10
  | 14 => iq_fds_14
  | n => by
    intro e he
    unfold iq_fds at he
    split at he
    · exact iq_fds_0 e he
    · exact iq_fds_1 e he
    · exact iq_fds_2 e he
    · exact iq_fds_3 e he
    · exact iq_fds_4 e he
    · exact iq_fds_5 e he
    · exact iq_fds_6 e he
    · exact iq_fds_7 e he
    · exact iq_fds_8 e he
    · exact iq_fds_9 e he
    · exact iq_fds_10 e he
    · exact iq_fds_14 e he
    · simp at he
theorem iq_lay_0 : ∀ w ∈ u_ws RX0 TX0 5, w ∈ iq_U := fun w h => List.mem_filter.mpr ⟨(goodIn_r (big := lw_tbl) _ [285, 287, 289, 291, 293] (by decide +kernel) (by decide +kernel) w h).1, by revert w; decide +kernel⟩
theorem iq_lay_1 : ∀ w ∈ u_ws RX1 TX1 9, w ∈ iq_U := fun w h => List.mem_filter.mpr ⟨(goodIn_r (big := lw_tbl) _ [319, 321, 323, 325, 327, 329, 331, 333, 335] (by decide +kernel) (by decide +kernel) w h).1, by revert w; decide +kernel⟩
theorem iq_lay_2 : ∀ w ∈ u_ws RX2 TX2 5, w ∈ iq_U := fun w h => List.mem_filter.mpr ⟨(goodIn_r (big := lw_tbl) _ [428, 430, 432, 434, 436] (by decide +kernel) (by decide +kernel) w h).1, by revert w; decide +kernel⟩
theorem iq_lay_3 : ∀ w ∈ u_ws RX3 TX3 13, w ∈ iq_U := fun w h => List.mem_filter.mpr ⟨(goodIn_r (big := lw_tbl) _ [235, 237, 239, 241, 243, 245, 247, 249, 251, 253, 255, 257, 259] (by decide +kernel) (by decide +kernel) w h).1, by revert w; decide +kernel⟩
theorem iq_lay_4 : ∀ w ∈ u_ws RX4 TX4 8, w ∈ iq_U := fun w h => List.mem_filter.mpr ⟨(goodIn_r (big := lw_tbl) _ [399, 401, 403, 405, 407, 409, 411, 413] (by decide +kernel) (by decide +kernel) w h).1, by revert w; decide +kernel⟩
theorem iq_lay_5 : ∀ w ∈ u_ws RX5 TX5 5, w ∈ iq_U := fun w h => List.mem_filter.mpr ⟨(goodIn_r (big := lw_tbl) _ [374, 376, 378, 380, 382] (by decide +kernel) (by decide +kernel) w h).1, by revert w; decide +kernel⟩
theorem iq_lay_6 : ∀ w ∈ u_ws RX6 TX6 6, w ∈ iq_U := fun w h => List.mem_filter.mpr ⟨(goodIn_r (big := lw_tbl) _ [451, 453, 455, 457, 459, 461] (by decide +kernel) (by decide +kernel) w h).1, by revert w; decide +kernel⟩
theorem iq_lay_7 : ∀ w ∈ u_ws RX7 TX7 7, w ∈ iq_U := fun w h => List.mem_filter.mpr ⟨(goodIn_r (big := lw_tbl) _ [182, 184, 186, 188, 190, 192, 194] (by decide +kernel) (by decide +kernel) w h).1, by revert w; decide +kernel⟩
theorem iq_lay_8 : ∀ w ∈ u_ws RX8 TX8 5, w ∈ iq_U := fun w h => List.mem_filter.mpr ⟨(goodIn_r (big := lw_tbl) _ [357, 359, 361, 363, 365] (by decide +kernel) (by decide +kernel) w h).1, by revert w; decide +kernel⟩
theorem iq_lay_9 : ∀ w ∈ u_ws RX9 TX9 14, w ∈ iq_U := fun w h => List.mem_filter.mpr ⟨(goodIn_r (big := lw_tbl) _ [478, 480, 482, 484, 486, 488, 490, 492, 494, 496, 498, 500, 502, 504] (by decide +kernel) (by decide +kernel) w h).1, by revert w; decide +kernel⟩
theorem iq_lay_10 : ∀ w ∈ u_ws RX10 TX10 74, w ∈ iq_U := fun w h => List.mem_filter.mpr ⟨(goodIn_r (big := lw_tbl) _ [1711, 1713, 1715, 1717, 1719, 1721, 1723, 1725, 1727, 1729, 1731, 1733, 1735, 1737, 1739, 1741, 1743, 1745, 1747, 1749, 1751, 1753, 1755, 1757, 1759, 1761, 1763, 1765, 1767, 1769, 1771, 1773, 1775, 1777, 1779, 1781, 1783, 1785, 1787, 1789, 1791, 1793, 1795, 1797, 1799, 1801, 1803, 1805, 1807, 1809, 1811, 1813, 1815, 1817, 1819, 1821, 1823, 1825, 1827, 1829, 1831, 1833, 1835, 1837, 1839, 1841, 1843, 1845, 1847, 1849, 1851, 1853, 1855, 1857] (by decide +kernel) (by decide +kernel) w h).1, by revert w; decide +kernel⟩
