/-! tables by program out of the printed names: methods, links of fields, calls, classes, constants -/
def oN (o : Nat) : String := ([RX0, RX1, RX2, RX3, RX4, RX5, RX6, RX7, RX8, RX9, RX10, RX11, RX12, RL, RJ0, RJ1, RJ3, RJ6, RJ9] : List String).getD o ""
def cN (ci : Nat) : String := if ci = 100 then RJ0 else match vwCl[ci]? with | some q => q.1 | none => ""
abbrev ME : Type := MethodName × ByteArray × Nat × Option FieldType × Nat
def MT_0 : List ME := [(yX0_init, cX0_init, 2, none, 0), (yX0_stride, cX0_stride, 1, (some .int), 0), (yX0_aim, cX0_aim, 6, (some .int), 0), (yX0_pathFrom, cX0_pathFrom, 8, (some .int), 0), (yX1_init, cX1_init, 1, none, 1), (yX1_member, cX1_member, 2, (some (.object "OldLadder$Climber")), 1), (yX1_hasAll, cX1_hasAll, 2, (some .boolean), 1), (yX1_join, cX1_join, 2, none, 1), (yX1_burden, cX1_burden, 4, none, 1), (yX1_toGround, cX1_toGround, 4, none, 1), (yX1_standingAt, cX1_standingAt, 5, (some .int), 1), (yX2_init, cX2_init, 1, none, 2), (yX2_waysOf, cX2_waysOf, 7, (some .long), 2), (yX2_mendsOf, cX2_mendsOf, 7, (some .int), 2), (yX2_goUp, cX2_goUp, 6, none, 2), (yX2_enrol, cX2_enrol, 5, none, 2), (yX2_makeRoom, cX2_makeRoom, 2, none, 2), (yX2_passBy, cX2_passBy, 5, none, 2), (yX2_countGaps, cX2_countGaps, 2, none, 2), (yX2_giveRung, cX2_giveRung, 8, none, 2)]
def MT_1 : List ME := [(yX2_reach, cX2_reach, 4, none, 2), (yX2_lesser, cX2_lesser, 4, (some .long), 2), (yX3_init, cX3_init, 2, none, 3), (yX3_ownKind, cX3_ownKind, 1, (some .int), 3), (yX3_pick, cX3_pick, 2, (some .int), 3), (yX4_init, cX4_init, 1, none, 4), (yX4_take, cX4_take, 5, none, 4), (yX4_restore, cX4_restore, 5, none, 4), (yX5_init, cX5_init, 2, none, 5), (yX5_ownKind, cX5_ownKind, 1, (some .int), 5), (yX5_pick, cX5_pick, 2, (some .int), 5), (yX6_init, cX6_init, 2, none, 6), (yX6_ownKind, cX6_ownKind, 1, (some .int), 6), (yX6_pick, cX6_pick, 2, (some .int), 6), (yX7_init, cX7_init, 1, none, 7), (yX7_findBest, cX7_findBest, 4, none, 7), (yX7_tryRows, cX7_tryRows, 11, none, 7), (yX8_init, cX8_init, 1, none, 8), (yX8_top, cX8_top, 1, (some .int), 8), (yX8_has, cX8_has, 2, (some .boolean), 8)]
def MT_2 : List ME := [(yX8_hasAll, cX8_hasAll, 2, (some .boolean), 8), (yX8_whole, cX8_whole, 1, (some .int), 8), (yX8_free, cX8_free, 1, (some .int), 8), (yX8_stateOf, cX8_stateOf, 2, (some .int), 8), (yX8_tenthsOf, cX8_tenthsOf, 2, (some .int), 8), (yX8_treaderOf, cX8_treaderOf, 2, (some .int), 8), (yX8_renew, cX8_renew, 2, none, 8), (yX8_lose, cX8_lose, 2, none, 8), (yX8_weaken, cX8_weaken, 3, none, 8), (yX8_heal, cX8_heal, 2, none, 8), (yX8_freeAll, cX8_freeAll, 1, none, 8), (yX8_tread, cX8_tread, 3, none, 8), (yX9_init, cX9_init, 1, none, 9), (yX9_append, cX9_append, 2, none, 9), (yX9_firstFault, cX9_firstFault, 4, (some .int), 9), (yX9_lineStands, cX9_lineStands, 3, (some .boolean), 9), (yX9_numberStands, cX9_numberStands, 5, (some .boolean), 9), (yX9_readToken, cX9_readToken, 2, none, 9), (yX9_rowEnd, cX9_rowEnd, 5, (some .int), 9), (yX9_wordRead, cX9_wordRead, 2, (some .int), 9)]
def MT_3 : List ME := [(yX9_isSpelt, cX9_isSpelt, 3, (some .boolean), 9), (yX9_numberRead, cX9_numberRead, 3, (some .int), 9), (yX10_init, cX10_init, 2, none, 10), (yX10_ownKind, cX10_ownKind, 1, (some .int), 10), (yX10_pick, cX10_pick, 3, (some .int), 10), (yX11_init, cX11_init, 2, none, 11), (yX11_write, cX11_write, 5, (some .int), 11), (yX11_erase, cX11_erase, 2, (some .int), 11), (yX11_fault, cX11_fault, 1, (some .int), 11), (yX11_ladder, cX11_ladder, 3, (some .int), 11), (yX11_rung, cX11_rung, 3, (some .int), 11), (yX11_climber, cX11_climber, 4, (some .int), 11), (yX11_as, cX11_as, 4, (some .int), 11), (yX11_mind, cX11_mind, 6, (some .int), 11), (yX11_step, cX11_step, 4, (some .int), 11), (yX11_climb, cX11_climb, 6, (some .int), 11), (yX11_lower, cX11_lower, 4, (some .int), 11), (yX11_judge, cX11_judge, 7, (some .int), 11), (yX11_keep, cX11_keep, 2, (some .int), 11), (yX11_back, cX11_back, 2, (some .int), 11)]
def MT_4 : List ME := [(yX11_most, cX11_most, 3, (some .int), 11), (yX11_ways, cX11_ways, 2, (some .long), 11), (yX11_largest, cX11_largest, 4, (some .int), 11), (yX11_order, cX11_order, 3, (some .int), 11), (yX11_mends, cX11_mends, 2, (some .int), 11), (yX11_spoilt, cX11_spoilt, 3, (some .int), 11), (yX11_both, cX11_both, 3, (some .int), 11), (yX11_odds, cX11_odds, 10, (some .long), 11), (yX11_fits, cX11_fits, 8, (some .int), 11), (yX11_make, cX11_make, 6, (some .int), 11), (yX11_count, cX11_count, 2, (some .int), 11), (yX11_obey, cX11_obey, 4, none, 11), (yX11_startAnew, cX11_startAnew, 2, none, 11), (yX11_canStep, cX11_canStep, 4, (some .boolean), 11), (yX11_mostAlike, cX11_mostAlike, 2, (some .int), 11), (yX11_narrowStretch, cX11_narrowStretch, 4, (some .int), 11), (yX11_freeInStretch, cX11_freeInStretch, 3, (some .int), 11), (yX11_weightOfUp, cX11_weightOfUp, 4, (some .long), 11), (yX11_passRung, cX11_passRung, 7, none, 11), (yX11_sumOfGaps, cX11_sumOfGaps, 5, (some .long), 11)]
def MT_5 : List ME := [(yX11_commonDivisor, cX11_commonDivisor, 11, (some .long), 11), (yX11_isReach, cX11_isReach, 1, (some .boolean), 11), (yX11_isSuch, cX11_isSuch, 2, (some .boolean), 11), (yX11_newClimber, cX11_newClimber, 2, (some (.object "OldLadder$Climber")), 11), (yX11_bit, cX11_bit, 1, (some .int), 11), (yX11_holds, cX11_holds, 2, (some .boolean), 11), (yX11_nthRung, cX11_nthRung, 5, (some .int), 11), (yX11_spelling, cX11_spelling, 1, (some (.object "java/lang/String")), 11), (yX12_init, cX12_init, 1, none, 12), (yX12_in, cX12_in, 6, (some .boolean), 12), (yX12_has, cX12_has, 2, (some .boolean), 12), (yX12_bits, cX12_bits, 3, (some .int), 12), (yX12_begin, cX12_begin, 2, none, 12), (yX12_write, cX12_write, 5, (some .int), 12), (yX12_erase, cX12_erase, 2, (some .int), 12), (yX12_sort, cX12_sort, 1, (some .int), 12), (yX12_token, cX12_token, 1, none, 12), (yX12_isWord, cX12_isWord, 5, (some .boolean), 12), (yX12_rungWord, cX12_rungWord, 1, (some .int), 12), (yX12_wordOf, cX12_wordOf, 2, (some .int), 12)]
def MT_6 : List ME := [(yX12_reads, cX12_reads, 6, (some .boolean), 12), (yX12_readsRest, cX12_readsRest, 2, (some .boolean), 12), (yX12_isClimberWord, cX12_isClimberWord, 1, (some .boolean), 12), (yX12_readsLine, cX12_readsLine, 2, (some .boolean), 12), (yX12_fault, cX12_fault, 2, (some .int), 12), (yX12_tell, cX12_tell, 4, none, 12), (yX12_ladder, cX12_ladder, 2, (some .int), 12), (yX12_isRung, cX12_isRung, 2, (some .boolean), 12), (yX12_isClimber, cX12_isClimber, 2, (some .boolean), 12), (yX12_isSet, cX12_isSet, 2, (some .boolean), 12), (yX12_areRungs, cX12_areRungs, 2, (some .boolean), 12), (yX12_there, cX12_there, 3, (some .int), 12), (yX12_spent, cX12_spent, 4, (some .int), 12), (yX12_free, cX12_free, 2, (some .int), 12), (yX12_tenthsOf, cX12_tenthsOf, 2, (some .int), 12), (yX12_rung, cX12_rung, 3, (some .int), 12), (yX12_strideOf, cX12_strideOf, 3, (some .int), 12), (yX12_climber, cX12_climber, 3, (some .int), 12), (yX12_kth, cX12_kth, 4, (some .int), 12), (yX12_inStride, cX12_inStride, 2, (some .int), 12)]
def MT_7 : List ME := [(yX12_stepOf, cX12_stepOf, 9, (some .int), 12), (yX12_nextOf, cX12_nextOf, 3, (some .int), 12), (yX12_as, cX12_as, 6, (some .int), 12), (yX12_mind, cX12_mind, 4, (some .int), 12), (yX12_go, cX12_go, 4, none, 12), (yX12_step, cX12_step, 5, (some .int), 12), (yX12_climbOn, cX12_climbOn, 4, none, 12), (yX12_climb, cX12_climb, 2, (some .int), 12), (yX12_lower, cX12_lower, 3, (some .int), 12), (yX12_judge, cX12_judge, 6, (some .int), 12), (yX12_copy, cX12_copy, 4, none, 12), (yX12_keep, cX12_keep, 2, (some .int), 12), (yX12_back, cX12_back, 2, (some .int), 12), (yX12_isStride, cX12_isStride, 1, (some .boolean), 12), (yX12_mostBy, cX12_mostBy, 7, (some .int), 12), (yX12_most, cX12_most, 3, (some .int), 12), (yX12_spoilt, cX12_spoilt, 4, (some .int), 12), (yX12_both, cX12_both, 3, (some .int), 12), (yX12_power, cX12_power, 3, (some .int), 12), (yX12_choose, cX12_choose, 3, none, 12)]
def MT_8 : List ME := [(yX12_onBy, cX12_onBy, 6, (some .int), 12), (yX12_put, cX12_put, 5, none, 12), (yX12_layStates, cX12_layStates, 8, none, 12), (yX12_waysOf, cX12_waysOf, 5, (some .long), 12), (yX12_ways, cX12_ways, 2, (some .long), 12), (yX12_largest, cX12_largest, 4, (some .int), 12), (yX12_mends, cX12_mends, 4, (some .int), 12), (yX12_rowOf, cX12_rowOf, 8, (some .int), 12), (yX12_order, cX12_order, 8, (some .int), 12), (yX12_upBy, cX12_upBy, 5, (some .int), 12), (yX12_odds, cX12_odds, 14, (some .long), 12), (yX12_treads, cX12_treads, 6, (some .int), 12), (yX12_fits, cX12_fits, 5, (some .int), 12), (yX12_make, cX12_make, 5, (some .int), 12), (yX12_count, cX12_count, 4, (some .int), 12), (yJ6_bitCount_0f7a4, cJ6_bitCount_0f7a4, 1, (some .int), 17), (yJ9_max_7cf53, cJ9_max_7cf53, 2, (some .int), 18), (yJ9_max_f86c9, cJ9_max_f86c9, 4, (some .long), 18), (yJ9_min_f86c9, cJ9_min_f86c9, 4, (some .long), 18), (yJ0_length_8abf5, cJ0_length_8abf5, 1, (some .int), 14)]
def MT_9 : List ME := [(yJ0_charAt_5068e, cJ0_charAt_5068e, 2, (some .char), 14), (yJ0_coder_7d493, cJ0_coder_7d493, 1, (some .byte), 14), (yJ0_isLatin1_aae02, cJ0_isLatin1_aae02, 1, (some .boolean), 14), (yJ0_checkIndex_df160, cJ0_checkIndex_df160, 2, none, 14), (yJ1_charAt_3b067, cJ1_charAt_3b067, 2, (some .char), 15), (yJ3_checkIndex_8e157, cJ3_checkIndex_8e157, 3, (some .int), 16), (yL_law, cL_law, 4, (some .boolean), 13)]
def MT : List ME := MT_0 ++ (MT_1 ++ (MT_2 ++ (MT_3 ++ (MT_4 ++ (MT_5 ++ (MT_6 ++ (MT_7 ++ (MT_8 ++ (MT_9)))))))))
def mE (mi : Nat) : ME := MT.getD mi (yL_law, code, 4, none, 13)
abbrev mY (mi : Nat) : MethodName := (mE mi).1
abbrev mC (mi : Nat) : ByteArray := (mE mi).2.1
abbrev mL (mi : Nat) : Nat := (mE mi).2.2.1
abbrev mR (mi : Nat) : Option FieldType := (mE mi).2.2.2.1
abbrev mO (mi : Nat) : Nat := (mE mi).2.2.2.2
/-- a field by its link: class and entry; which classes' objects have it, its place, of a nest mate, final, the class, name and type that the entry names, the word's place -/
abbrev FE : Type := Nat × Nat × List Nat × Nat × Bool × Bool × String × String × String × FieldType × Nat
def FT_0 : List FE := [(0, 9, [2, 4, 5, 9], 0, false, true, "OldLadder$Climber", "reach", "I", .int, 467),
  (0, 15, [2, 4, 5, 9], 1, false, false, "OldLadder$Climber", "load", "I", .int, 469),
  (1, 11, [0], 0, false, true, "OldLadder$Crew", "members", "[LOldLadder$Climber;", (.array (.object "OldLadder$Climber")), 201),
  (1, 17, [0], 1, false, false, "OldLadder$Crew", "size", "I", .int, 202),
  (1, 25, [2, 4, 5, 9], 1, false, false, "OldLadder$Climber", "load", "I", .int, 470),
  (1, 28, [2, 4, 5, 9], 2, false, false, "OldLadder$Climber", "at", "I", .int, 473),
  (1, 33, [9], 3, false, false, "OldLadder$Told", "minded", "I", .int, 502),
  (2, 11, [1], 0, false, false, "OldLadder$Crowd", "now", "[J", .array .long, 236),
  (2, 15, [1], 1, false, false, "OldLadder$Crowd", "next", "[J", .array .long, 237),
  (2, 18, [1], 2, false, true, "OldLadder$Crowd", "strides", "[I", .array .int, 238),
  (2, 22, [1], 3, false, true, "OldLadder$Crowd", "weights", "[I", .array .int, 239),
  (2, 25, [1], 4, false, true, "OldLadder$Crowd", "gaps", "[I", .array .int, 240),
  (2, 28, [1], 8, false, false, "OldLadder$Crowd", "mending", "Z", .boolean, 244),
  (2, 36, [1], 6, false, false, "OldLadder$Crowd", "states", "I", .int, 242),
  (2, 51, [7], 0, true, false, "OldLadder$Rungs", "height", "I", .int, 169),
  (2, 68, [1], 5, false, false, "OldLadder$Crowd", "size", "I", .int, 241),
  (2, 71, [1], 7, false, false, "OldLadder$Crowd", "allWeights", "I", .int, 243),
  (4, 9, [3], 2, false, true, "OldLadder$Image", "treaders", "[I", .array .int, 219),
  (4, 15, [3], 3, false, true, "OldLadder$Image", "places", "[I", .array .int, 220),
  (4, 18, [3], 0, false, false, "OldLadder$Image", "taken", "Z", .boolean, 216)]
def FT_1 : List FE := [(4, 22, [7], 3, true, false, "OldLadder$Rungs", "spent", "I", .int, 174),
  (4, 28, [3], 1, false, false, "OldLadder$Image", "spent", "I", .int, 218),
  (4, 29, [7], 5, true, true, "OldLadder$Rungs", "treaders", "[I", .array .int, 179),
  (4, 42, [2, 4, 5, 9], 2, false, false, "OldLadder$Climber", "at", "I", .int, 472),
  (7, 9, [6], 0, false, true, "OldLadder$Rows", "row", "[I", .array .int, 271),
  (7, 15, [6], 1, false, true, "OldLadder$Rows", "best", "[I", .array .int, 272),
  (7, 18, [6], 2, false, false, "OldLadder$Rows", "bestUp", "I", .int, 274),
  (8, 9, [7], 0, false, false, "OldLadder$Rungs", "height", "I", .int, 167),
  (8, 15, [7], 4, false, true, "OldLadder$Rungs", "tenths", "[I", .array .int, 177),
  (8, 19, [7], 5, false, true, "OldLadder$Rungs", "treaders", "[I", .array .int, 178),
  (8, 22, [7], 2, false, false, "OldLadder$Rungs", "gone", "I", .int, 172),
  (8, 29, [7], 3, false, false, "OldLadder$Rungs", "spent", "I", .int, 175),
  (8, 36, [7], 1, false, false, "OldLadder$Rungs", "weak", "I", .int, 170),
  (9, 9, [8], 0, false, true, "OldLadder$Text", "bytes", "[I", .array .int, 118),
  (9, 15, [8], 2, false, true, "OldLadder$Text", "words", "[I", .array .int, 121),
  (9, 18, [8], 3, false, true, "OldLadder$Text", "firsts", "[I", .array .int, 123),
  (9, 21, [8], 4, false, true, "OldLadder$Text", "seconds", "[I", .array .int, 125),
  (9, 24, [8], 1, false, false, "OldLadder$Text", "length", "I", .int, 119),
  (9, 28, [8], 10, false, false, "OldLadder$Text", "height", "I", .int, 133),
  (9, 31, [8], 11, false, false, "OldLadder$Text", "people", "I", .int, 134)]
def FT_2 : List FE := [(9, 34, [8], 5, false, false, "OldLadder$Text", "lines", "I", .int, 127),
  (9, 37, [8], 7, false, false, "OldLadder$Text", "end", "I", .int, 130),
  (9, 44, [8], 6, false, false, "OldLadder$Text", "begin", "I", .int, 129),
  (9, 50, [8], 8, false, false, "OldLadder$Text", "token", "I", .int, 131),
  (9, 53, [8], 9, false, false, "OldLadder$Text", "value", "I", .int, 132),
  (10, 9, [9], 3, false, false, "OldLadder$Told", "minded", "I", .int, 501),
  (11, 10, [10], 0, false, true, "OldLadder", "text", "LOldLadder$Text;", (.object "OldLadder$Text"), 283),
  (11, 19, [10], 1, false, true, "OldLadder", "rungs", "LOldLadder$Rungs;", (.object "OldLadder$Rungs"), 284),
  (11, 26, [10], 2, false, true, "OldLadder", "crew", "LOldLadder$Crew;", (.object "OldLadder$Crew"), 285),
  (11, 32, [10], 3, false, true, "OldLadder", "images", "[LOldLadder$Image;", (.array (.object "OldLadder$Image")), 286),
  (11, 40, [10], 4, false, true, "OldLadder", "crowd", "LOldLadder$Crowd;", (.object "OldLadder$Crowd"), 287),
  (11, 47, [10], 5, false, true, "OldLadder", "rows", "LOldLadder$Rows;", (.object "OldLadder$Rows"), 288),
  (11, 51, [10], 6, false, true, "OldLadder", "gapOdds", "[J", .array .long, 289),
  (11, 55, [8], 1, true, false, "OldLadder$Text", "length", "I", .int, 120),
  (11, 65, [7], 0, true, false, "OldLadder$Rungs", "height", "I", .int, 168),
  (11, 68, [0], 1, true, false, "OldLadder$Crew", "size", "I", .int, 203),
  (11, 75, [8], 5, true, false, "OldLadder$Text", "lines", "I", .int, 128),
  (11, 78, [8], 2, true, true, "OldLadder$Text", "words", "[I", .array .int, 122),
  (11, 82, [8], 3, true, true, "OldLadder$Text", "firsts", "[I", .array .int, 124),
  (11, 85, [8], 4, true, true, "OldLadder$Text", "seconds", "[I", .array .int, 126)]
def FT_3 : List FE := [(11, 126, [2, 4, 5, 9], 0, false, true, "OldLadder$Climber", "reach", "I", .int, 468),
  (11, 129, [2, 4, 5, 9], 1, false, false, "OldLadder$Climber", "load", "I", .int, 471),
  (11, 135, [2, 4, 5, 9], 2, false, false, "OldLadder$Climber", "at", "I", .int, 474),
  (11, 154, [9], 3, false, false, "OldLadder$Told", "minded", "I", .int, 503),
  (11, 172, [7], 3, true, false, "OldLadder$Rungs", "spent", "I", .int, 176),
  (11, 180, [3], 0, true, false, "OldLadder$Image", "taken", "Z", .boolean, 217),
  (11, 207, [6], 2, true, false, "OldLadder$Rows", "bestUp", "I", .int, 275),
  (11, 210, [6], 1, true, true, "OldLadder$Rows", "best", "[I", .array .int, 273),
  (11, 224, [7], 1, true, false, "OldLadder$Rungs", "weak", "I", .int, 171),
  (11, 251, [7], 2, true, false, "OldLadder$Rungs", "gone", "I", .int, 173),
  (12, 7, [11], 0, false, true, "OldLadderModel", "row", "[I", .array .int, 868),
  (12, 13, [11], 1, false, true, "OldLadderModel", "isKept", "[Z", .array .boolean, 869),
  (12, 17, [11], 2, false, true, "OldLadderModel", "text", "[I", .array .int, 870),
  (12, 20, [11], 4, false, true, "OldLadderModel", "read", "[I", .array .int, 872),
  (12, 23, [11], 6, false, false, "OldLadderModel", "high", "I", .int, 874),
  (12, 27, [11], 7, false, true, "OldLadderModel", "sorts", "[I", .array .int, 875),
  (12, 30, [11], 8, false, true, "OldLadderModel", "tenths", "[I", .array .int, 876),
  (12, 33, [11], 9, false, true, "OldLadderModel", "kinds", "[I", .array .int, 877),
  (12, 36, [11], 10, false, true, "OldLadderModel", "reaches", "[I", .array .int, 878),
  (12, 39, [11], 11, false, true, "OldLadderModel", "loads", "[I", .array .int, 879)]
def FT_4 : List FE := [(12, 42, [11], 12, false, true, "OldLadderModel", "minds", "[I", .array .int, 880),
  (12, 45, [11], 19, false, true, "OldLadderModel", "counts", "[J", .array .long, 887),
  (12, 49, [11], 20, false, true, "OldLadderModel", "nextCounts", "[J", .array .long, 888),
  (12, 52, [11], 21, false, true, "OldLadderModel", "costs", "[I", .array .int, 889),
  (12, 55, [11], 22, false, true, "OldLadderModel", "nextCosts", "[I", .array .int, 890),
  (12, 58, [11], 23, false, true, "OldLadderModel", "chosen", "[I", .array .int, 891),
  (12, 61, [11], 25, false, true, "OldLadderModel", "chances", "[J", .array .long, 893),
  (12, 73, [11], 3, false, false, "OldLadderModel", "length", "I", .int, 871),
  (12, 78, [11], 14, false, false, "OldLadderModel", "at", "I", .int, 882),
  (12, 81, [11], 15, false, false, "OldLadderModel", "place", "I", .int, 883),
  (12, 88, [11], 16, false, false, "OldLadderModel", "end", "I", .int, 884),
  (12, 108, [11], 5, false, false, "OldLadderModel", "readMany", "I", .int, 873),
  (12, 118, [11], 17, false, false, "OldLadderModel", "readHigh", "I", .int, 885),
  (12, 121, [11], 18, false, false, "OldLadderModel", "readClimbers", "I", .int, 886),
  (12, 138, [11], 13, false, false, "OldLadderModel", "many", "I", .int, 881),
  (12, 218, [11], 24, false, false, "OldLadderModel", "chosenMany", "I", .int, 892)]
def FT : List FE := FT_0 ++ (FT_1 ++ (FT_2 ++ (FT_3 ++ (FT_4))))
/-- a call by its link: 0 of an object, 1 special, 2 static; how many arguments; by the class of the receiver the method and its words' places; its kind; what the entry names -/
abbrev CE : Type := Nat × Nat × Nat × Nat × List (Nat × Nat × List Nat) × Nat × MethodName
def CT_0 : List CE := [(0, 3, 1, 0, [], 8, ⟨"java/lang/Object", "<init>", "()V"⟩),
  (0, 18, 2, 2, [(0, 176, [591, 592, 101, 593])], 4, ⟨"java/lang/Math", "max", "(II)I"⟩),
  (0, 24, 0, 0, [(2, 1, [613, 585, 586, 584, 96, 590]), (5, 1, [613, 585, 588, 584, 96, 590]), (4, 1, [613, 585, 587, 584, 96, 590]), (9, 1, [613, 585, 589, 584, 96, 590])], 2, ⟨"OldLadder$Climber", "stride", "()I"⟩),
  (0, 28, 0, 1, [(2, 24, [614, 616, 617, 618, 99, 619, 615]), (5, 33, [614, 616, 634, 635, 97, 636, 615]), (4, 30, [614, 616, 629, 630, 98, 631, 615]), (9, 64, [614, 616, 638, 639, 100, 640, 615])], 3, ⟨"OldLadder$Climber", "pick", "(I)I"⟩),
  (0, 32, 0, 3, [(2, 2, [675, 607, 608, 606, 96, 612]), (5, 2, [675, 607, 610, 606, 96, 612]), (4, 2, [675, 607, 609, 606, 96, 612]), (9, 2, [675, 607, 611, 606, 96, 612])], 2, ⟨"OldLadder$Climber", "aim", "(III)I"⟩),
  (0, 36, 2, 1, [(0, 104, [676, 433, 84, 434])], 5, ⟨"OldLadder", "bit", "(I)I"⟩),
  (1, 3, 1, 0, [], 8, ⟨"java/lang/Object", "<init>", "()V"⟩),
  (1, 21, 0, 1, [(0, 5, [451, 453, 16, 87, 454])], 0, ⟨"OldLadder$Crew", "member", "(I)LOldLadder$Climber;"⟩),
  (2, 3, 1, 0, [], 8, ⟨"java/lang/Object", "<init>", "()V"⟩),
  (2, 32, 0, 3, [(1, 14, [738, 740, 37, 89, 741])], 0, ⟨"OldLadder$Crowd", "goUp", "(LOldLadder$Crew;ILOldLadder$Rungs;)V"⟩),
  (2, 40, 2, 2, [(0, 21, [766, 767, 89, 768])], 4, ⟨"OldLadder$Crowd", "lesser", "(JJ)J"⟩),
  (2, 44, 0, 2, [(1, 15, [742, 744, 38, 89, 745])], 0, ⟨"OldLadder$Crowd", "enrol", "(LOldLadder$Crew;I)V"⟩),
  (2, 48, 0, 0, [(1, 16, [748, 750, 39, 89, 751])], 0, ⟨"OldLadder$Crowd", "makeRoom", "()V"⟩),
  (2, 56, 0, 0, [(7, 42, [752, 552, 23, 86, 553])], 1, ⟨"OldLadder$Rungs", "free", "()I"⟩),
  (2, 60, 2, 2, [(0, 105, [753, 544, 84, 545])], 5, ⟨"OldLadder", "holds", "(II)Z"⟩),
  (2, 64, 0, 1, [(1, 17, [754, 756, 40, 89, 757])], 0, ⟨"OldLadder$Crowd", "passBy", "(Z)V"⟩),
  (2, 74, 0, 1, [(0, 5, [746, 453, 16, 87, 454])], 1, ⟨"OldLadder$Crew", "member", "(I)LOldLadder$Climber;"⟩),
  (2, 80, 0, 0, [(2, 1, [747, 585, 586, 584, 96, 590]), (5, 1, [747, 585, 588, 584, 96, 590]), (4, 1, [747, 585, 587, 584, 96, 590]), (9, 1, [747, 585, 589, 584, 96, 590])], 2, ⟨"OldLadder$Climber", "stride", "()I"⟩),
  (2, 85, 0, 3, [(1, 19, [758, 760, 41, 89, 761])], 0, ⟨"OldLadder$Crowd", "giveRung", "(IJZ)V"⟩),
  (2, 89, 0, 0, [(1, 18, [772, 774, 43, 89, 775])], 0, ⟨"OldLadder$Crowd", "countGaps", "()V"⟩)]
def CT_1 : List CE := [(2, 92, 0, 2, [(1, 20, [762, 764, 42, 89, 765])], 0, ⟨"OldLadder$Crowd", "reach", "(IJ)V"⟩),
  (2, 96, 2, 2, [(0, 178, [769, 770, 101, 771])], 4, ⟨"java/lang/Math", "min", "(JJ)J"⟩),
  (3, 3, 1, 1, [(0, 0, [500, 464, 96, 465])], 6, ⟨"OldLadder$Climber", "<init>", "(I)V"⟩),
  (3, 9, 2, 1, [(0, 175, [620, 621, 102, 622])], 4, ⟨"java/lang/Integer", "bitCount", "(I)I"⟩),
  (3, 15, 2, 2, [(0, 106, [626, 627, 84, 628])], 5, ⟨"OldLadder", "nthRung", "(II)I"⟩),
  (4, 3, 1, 0, [], 8, ⟨"java/lang/Object", "<init>", "()V"⟩),
  (4, 30, 2, 5, [], 9, ⟨"java/lang/System", "arraycopy", "(Ljava/lang/Object;ILjava/lang/Object;II)V"⟩),
  (4, 36, 0, 1, [(0, 5, [696, 453, 16, 87, 454])], 1, ⟨"OldLadder$Crew", "member", "(I)LOldLadder$Climber;"⟩),
  (5, 3, 1, 1, [(0, 31, [487, 461, 97, 462])], 6, ⟨"OldLadder$Near", "<init>", "(I)V"⟩),
  (5, 9, 2, 1, [(0, 175, [632, 621, 102, 622])], 4, ⟨"java/lang/Integer", "bitCount", "(I)I"⟩),
  (5, 15, 2, 2, [(0, 106, [633, 627, 84, 628])], 5, ⟨"OldLadder", "nthRung", "(II)I"⟩),
  (6, 3, 1, 1, [(0, 0, [463, 464, 96, 465])], 6, ⟨"OldLadder$Climber", "<init>", "(I)V"⟩),
  (6, 9, 2, 2, [(0, 106, [637, 627, 84, 628])], 5, ⟨"OldLadder", "nthRung", "(II)I"⟩),
  (7, 3, 1, 0, [], 8, ⟨"java/lang/Object", "<init>", "()V"⟩),
  (7, 22, 0, 0, [(7, 42, [788, 552, 23, 86, 553])], 1, ⟨"OldLadder$Rungs", "free", "()I"⟩),
  (7, 28, 0, 0, [(7, 38, [789, 603, 26, 86, 604])], 1, ⟨"OldLadder$Rungs", "top", "()I"⟩),
  (7, 31, 0, 6, [(6, 36, [790, 792, 45, 90, 793])], 0, ⟨"OldLadder$Rows", "tryRows", "(LOldLadder$Crew;IIIII)V"⟩),
  (7, 35, 2, 5, [], 9, ⟨"java/lang/System", "arraycopy", "(Ljava/lang/Object;ILjava/lang/Object;II)V"⟩),
  (7, 41, 0, 1, [(0, 5, [795, 453, 16, 87, 454])], 1, ⟨"OldLadder$Crew", "member", "(I)LOldLadder$Climber;"⟩),
  (7, 47, 0, 3, [(2, 3, [796, 669, 670, 668, 96, 674]), (5, 3, [796, 669, 672, 668, 96, 674]), (4, 3, [796, 669, 671, 668, 96, 674]), (9, 3, [796, 669, 673, 668, 96, 674])], 2, ⟨"OldLadder$Climber", "pathFrom", "(III)I"⟩)]
def CT_2 : List CE := [(7, 53, 2, 2, [(0, 105, [797, 544, 84, 545])], 5, ⟨"OldLadder", "holds", "(II)Z"⟩),
  (8, 3, 1, 0, [], 8, ⟨"java/lang/Object", "<init>", "()V"⟩),
  (8, 25, 0, 0, [(7, 41, [554, 556, 24, 86, 557])], 0, ⟨"OldLadder$Rungs", "whole", "()I"⟩),
  (8, 32, 2, 2, [(0, 105, [543, 544, 84, 545])], 5, ⟨"OldLadder", "holds", "(II)Z"⟩),
  (8, 39, 0, 1, [(7, 39, [439, 441, 13, 86, 442])], 0, ⟨"OldLadder$Rungs", "has", "(I)Z"⟩),
  (8, 43, 2, 1, [(0, 104, [432, 433, 84, 434])], 5, ⟨"OldLadder", "bit", "(I)I"⟩),
  (9, 3, 1, 0, [], 8, ⟨"java/lang/Object", "<init>", "()V"⟩),
  (9, 40, 0, 1, [(8, 55, [326, 328, 2, 85, 329])], 0, ⟨"OldLadder$Text", "lineStands", "(I)Z"⟩),
  (9, 47, 0, 0, [(8, 57, [330, 332, 3, 85, 333])], 0, ⟨"OldLadder$Text", "readToken", "()V"⟩),
  (9, 56, 0, 4, [(8, 56, [411, 413, 8, 85, 414])], 0, ⟨"OldLadder$Text", "numberStands", "([IIII)Z"⟩),
  (9, 60, 0, 3, [(8, 58, [334, 336, 4, 85, 337])], 0, ⟨"OldLadder$Text", "rowEnd", "(III)I"⟩),
  (9, 64, 0, 0, [(8, 59, [338, 340, 5, 85, 341])], 0, ⟨"OldLadder$Text", "wordRead", "()I"⟩),
  (9, 68, 0, 0, [(8, 61, [407, 409, 7, 85, 410])], 0, ⟨"OldLadder$Text", "numberRead", "()I"⟩),
  (9, 71, 2, 1, [(0, 107, [342, 343, 84, 344])], 5, ⟨"OldLadder", "spelling", "(I)Ljava/lang/String;"⟩),
  (9, 75, 0, 1, [(8, 60, [355, 357, 6, 85, 358])], 0, ⟨"OldLadder$Text", "isSpelt", "(Ljava/lang/String;)Z"⟩),
  (9, 79, 0, 0, [(100, 179, [359, 360, 361, 92, 362])], 0, ⟨"java/lang/String", "length", "()I"⟩),
  (9, 83, 0, 1, [(100, 180, [369, 370, 371, 92, 372])], 0, ⟨"java/lang/String", "charAt", "(I)C"⟩),
  (10, 3, 1, 1, [(0, 22, [497, 498, 99, 499])], 6, ⟨"OldLadder$Far", "<init>", "(I)V"⟩),
  (10, 15, 2, 1, [(0, 175, [641, 621, 102, 622])], 4, ⟨"java/lang/Integer", "bitCount", "(I)I"⟩),
  (10, 21, 2, 2, [(0, 106, [642, 627, 84, 628])], 5, ⟨"OldLadder", "nthRung", "(II)I"⟩)]
def CT_3 : List CE := [(11, 1, 1, 0, [], 8, ⟨"java/lang/Object", "<init>", "()V"⟩),
  (11, 9, 1, 0, [(0, 52, [114, 115, 85, 116])], 7, ⟨"OldLadder$Text", "<init>", "()V"⟩),
  (11, 18, 1, 0, [(0, 37, [163, 164, 86, 165])], 7, ⟨"OldLadder$Rungs", "<init>", "()V"⟩),
  (11, 25, 1, 0, [(0, 4, [195, 196, 87, 197])], 7, ⟨"OldLadder$Crew", "<init>", "()V"⟩),
  (11, 36, 1, 0, [(0, 25, [212, 213, 88, 214])], 7, ⟨"OldLadder$Image", "<init>", "()V"⟩),
  (11, 39, 1, 0, [(0, 11, [232, 233, 89, 234])], 7, ⟨"OldLadder$Crowd", "<init>", "()V"⟩),
  (11, 46, 1, 0, [(0, 34, [267, 268, 90, 269])], 7, ⟨"OldLadder$Rows", "<init>", "()V"⟩),
  (11, 61, 0, 1, [(8, 53, [310, 312, 0, 85, 313])], 1, ⟨"OldLadder$Text", "append", "(I)V"⟩),
  (11, 71, 0, 2, [(8, 54, [322, 324, 1, 85, 325])], 1, ⟨"OldLadder$Text", "firstFault", "(II)I"⟩),
  (11, 88, 0, 3, [(10, 91, [420, 422, 9, 84, 423])], 0, ⟨"OldLadder", "obey", "(III)V"⟩),
  (11, 92, 0, 0, [(10, 92, [521, 523, 18, 84, 524])], 0, ⟨"OldLadder", "startAnew", "()V"⟩),
  (11, 95, 0, 1, [(7, 39, [538, 441, 13, 86, 442])], 1, ⟨"OldLadder$Rungs", "has", "(I)Z"⟩),
  (11, 99, 0, 1, [(7, 43, [539, 541, 21, 86, 542])], 1, ⟨"OldLadder$Rungs", "stateOf", "(I)I"⟩),
  (11, 103, 0, 1, [(7, 44, [546, 548, 22, 86, 549])], 1, ⟨"OldLadder$Rungs", "tenthsOf", "(I)I"⟩),
  (11, 106, 0, 0, [(7, 42, [550, 552, 23, 86, 553])], 1, ⟨"OldLadder$Rungs", "free", "()I"⟩),
  (11, 110, 2, 2, [(0, 105, [558, 544, 84, 545])], 4, ⟨"OldLadder", "holds", "(II)Z"⟩),
  (11, 114, 0, 1, [(7, 45, [559, 561, 25, 86, 562])], 1, ⟨"OldLadder$Rungs", "treaderOf", "(I)I"⟩),
  (11, 117, 0, 1, [(0, 5, [567, 453, 16, 87, 454])], 1, ⟨"OldLadder$Crew", "member", "(I)LOldLadder$Climber;"⟩),
  (11, 121, 0, 0, [(2, 23, [568, 570, 571, 572, 99, 573, 569]), (5, 32, [568, 570, 577, 578, 97, 579, 569]), (4, 29, [568, 570, 574, 575, 98, 576, 569]), (9, 63, [568, 570, 580, 581, 100, 582, 569])], 3, ⟨"OldLadder$Climber", "ownKind", "()I"⟩),
  (11, 132, 0, 0, [(2, 1, [583, 585, 586, 584, 96, 590]), (5, 1, [583, 585, 588, 584, 96, 590]), (4, 1, [583, 585, 587, 584, 96, 590]), (9, 1, [583, 585, 589, 584, 96, 590])], 2, ⟨"OldLadder$Climber", "stride", "()I"⟩)]
def CT_4 : List CE := [(11, 138, 2, 2, [(0, 102, [598, 599, 84, 600])], 4, ⟨"OldLadder", "isSuch", "(LOldLadder$Climber;I)Z"⟩),
  (11, 142, 0, 0, [(7, 38, [601, 603, 26, 86, 604])], 1, ⟨"OldLadder$Rungs", "top", "()I"⟩),
  (11, 145, 0, 3, [(2, 2, [605, 607, 608, 606, 96, 612]), (5, 2, [605, 607, 610, 606, 96, 612]), (4, 2, [605, 607, 609, 606, 96, 612]), (9, 2, [605, 607, 611, 606, 96, 612])], 2, ⟨"OldLadder$Climber", "aim", "(III)I"⟩),
  (11, 149, 0, 1, [(7, 40, [647, 649, 27, 86, 650])], 1, ⟨"OldLadder$Rungs", "hasAll", "(I)Z"⟩),
  (11, 157, 0, 3, [(10, 93, [655, 657, 28, 84, 658])], 0, ⟨"OldLadder", "canStep", "(LOldLadder$Climber;II)Z"⟩),
  (11, 161, 0, 2, [(7, 51, [659, 661, 29, 86, 662])], 1, ⟨"OldLadder$Rungs", "tread", "(II)V"⟩),
  (11, 165, 0, 3, [(2, 3, [667, 669, 670, 668, 96, 674]), (5, 3, [667, 669, 672, 668, 96, 674]), (4, 3, [667, 669, 671, 668, 96, 674]), (9, 3, [667, 669, 673, 668, 96, 674])], 2, ⟨"OldLadder$Climber", "pathFrom", "(III)I"⟩),
  (11, 168, 0, 2, [(3, 26, [689, 691, 30, 88, 692])], 1, ⟨"OldLadder$Image", "take", "(LOldLadder$Rungs;LOldLadder$Crew;)V"⟩),
  (11, 175, 2, 1, [(0, 175, [697, 621, 102, 622])], 4, ⟨"java/lang/Integer", "bitCount", "(I)I"⟩),
  (11, 184, 0, 2, [(3, 27, [702, 704, 31, 88, 705])], 1, ⟨"OldLadder$Image", "restore", "(LOldLadder$Rungs;LOldLadder$Crew;)V"⟩),
  (11, 187, 2, 1, [(0, 101, [710, 711, 84, 712])], 4, ⟨"OldLadder", "isReach", "(I)Z"⟩),
  (11, 190, 0, 1, [(10, 94, [713, 715, 32, 84, 716])], 0, ⟨"OldLadder", "mostAlike", "(I)I"⟩),
  (11, 193, 0, 1, [(10, 95, [717, 719, 33, 84, 720])], 0, ⟨"OldLadder", "narrowStretch", "(I)I"⟩),
  (11, 196, 0, 1, [(0, 6, [729, 731, 35, 87, 732])], 1, ⟨"OldLadder$Crew", "hasAll", "(I)Z"⟩),
  (11, 199, 0, 3, [(1, 12, [734, 736, 36, 89, 737])], 1, ⟨"OldLadder$Crowd", "waysOf", "(LOldLadder$Crew;ILOldLadder$Rungs;)J"⟩),
  (11, 203, 0, 3, [(6, 35, [784, 786, 44, 90, 787])], 1, ⟨"OldLadder$Rows", "findBest", "(LOldLadder$Crew;ILOldLadder$Rungs;)V"⟩),
  (11, 213, 0, 3, [(1, 13, [802, 804, 46, 89, 805])], 1, ⟨"OldLadder$Crowd", "mendsOf", "(LOldLadder$Crew;ILOldLadder$Rungs;)I"⟩),
  (11, 217, 2, 2, [(0, 176, [810, 592, 101, 593])], 4, ⟨"java/lang/Math", "max", "(II)I"⟩),
  (11, 231, 0, 1, [(10, 97, [822, 824, 47, 84, 825])], 0, ⟨"OldLadder", "weightOfUp", "(I)J"⟩),
  (11, 235, 2, 2, [(0, 100, [834, 835, 84, 836])], 4, ⟨"OldLadder", "commonDivisor", "(JJ)J"⟩)]
def CT_5 : List CE := [(11, 239, 2, 2, [(0, 177, [837, 838, 101, 839])], 4, ⟨"java/lang/Math", "max", "(JJ)J"⟩),
  (11, 241, 0, 0, [(7, 41, [844, 556, 24, 86, 557])], 1, ⟨"OldLadder$Rungs", "whole", "()I"⟩),
  (11, 244, 2, 2, [(0, 103, [455, 456, 84, 457])], 4, ⟨"OldLadder", "newClimber", "(II)LOldLadder$Climber;"⟩),
  (11, 248, 2, 1, [(0, 104, [845, 433, 84, 434])], 4, ⟨"OldLadder", "bit", "(I)I"⟩),
  (11, 254, 0, 1, [(0, 10, [854, 856, 50, 87, 857])], 1, ⟨"OldLadder$Crew", "standingAt", "(I)I"⟩),
  (11, 257, 0, 1, [(7, 46, [424, 426, 10, 86, 427])], 1, ⟨"OldLadder$Rungs", "renew", "(I)V"⟩),
  (11, 260, 0, 1, [(7, 47, [428, 430, 11, 86, 431])], 1, ⟨"OldLadder$Rungs", "lose", "(I)V"⟩),
  (11, 263, 0, 2, [(7, 48, [435, 437, 12, 86, 438])], 1, ⟨"OldLadder$Rungs", "weaken", "(II)V"⟩),
  (11, 266, 0, 1, [(7, 49, [443, 445, 14, 86, 446])], 1, ⟨"OldLadder$Rungs", "heal", "(I)V"⟩),
  (11, 269, 0, 2, [(0, 8, [447, 449, 15, 87, 450])], 1, ⟨"OldLadder$Crew", "burden", "(II)V"⟩),
  (11, 272, 0, 1, [(0, 7, [517, 519, 17, 87, 520])], 1, ⟨"OldLadder$Crew", "join", "(LOldLadder$Climber;)V"⟩),
  (11, 276, 0, 0, [(7, 50, [525, 527, 19, 86, 528])], 1, ⟨"OldLadder$Rungs", "freeAll", "()V"⟩),
  (11, 279, 0, 0, [(0, 9, [529, 531, 20, 87, 532])], 1, ⟨"OldLadder$Crew", "toGround", "()V"⟩),
  (11, 282, 0, 2, [(10, 96, [721, 723, 34, 84, 724])], 0, ⟨"OldLadder", "freeInStretch", "(II)I"⟩),
  (11, 285, 0, 3, [(10, 98, [826, 828, 48, 84, 829])], 0, ⟨"OldLadder", "passRung", "(III)V"⟩),
  (11, 288, 0, 1, [(10, 99, [830, 832, 49, 84, 833])], 0, ⟨"OldLadder", "sumOfGaps", "(I)J"⟩),
  (11, 297, 1, 1, [(0, 31, [460, 461, 97, 462])], 6, ⟨"OldLadder$Near", "<init>", "(I)V"⟩),
  (11, 299, 1, 1, [(0, 28, [484, 485, 98, 486])], 6, ⟨"OldLadder$Middle", "<init>", "(I)V"⟩),
  (11, 300, 1, 1, [(0, 62, [494, 495, 100, 496])], 6, ⟨"OldLadder$Told", "<init>", "(I)V"⟩),
  (11, 301, 1, 1, [(0, 22, [512, 498, 99, 499])], 6, ⟨"OldLadder$Far", "<init>", "(I)V"⟩)]
def CT_6 : List CE := [(12, 1, 1, 0, [], 8, ⟨"java/lang/Object", "<init>", "()V"⟩),
  (12, 64, 0, 0, [(11, 112, [864, 866, 51, 91, 867])], 0, ⟨"OldLadderModel", "begin", "()V"⟩),
  (12, 69, 2, 3, [(0, 109, [953, 954, 91, 955])], 4, ⟨"OldLadderModel", "in", "(JJJ)Z"⟩),
  (12, 84, 2, 1, [(0, 115, [969, 970, 91, 971])], 4, ⟨"OldLadderModel", "sort", "(I)I"⟩),
  (12, 92, 0, 2, [(11, 117, [985, 987, 56, 91, 988])], 0, ⟨"OldLadderModel", "isWord", "(II)Z"⟩),
  (12, 99, 0, 0, [(11, 118, [980, 982, 55, 91, 983])], 0, ⟨"OldLadderModel", "rungWord", "()I"⟩),
  (12, 111, 0, 0, [(11, 116, [965, 967, 52, 91, 968])], 0, ⟨"OldLadderModel", "token", "()V"⟩),
  (12, 114, 0, 3, [(11, 120, [1006, 1008, 58, 91, 1009])], 0, ⟨"OldLadderModel", "reads", "(III)Z"⟩),
  (12, 128, 0, 0, [(11, 119, [976, 978, 54, 91, 979])], 0, ⟨"OldLadderModel", "wordOf", "()I"⟩),
  (12, 131, 2, 1, [(0, 122, [997, 998, 91, 999])], 4, ⟨"OldLadderModel", "isClimberWord", "(I)Z"⟩),
  (12, 135, 0, 1, [(11, 121, [1002, 1004, 57, 91, 1005])], 0, ⟨"OldLadderModel", "readsRest", "(I)Z"⟩),
  (12, 141, 0, 0, [(11, 123, [972, 974, 53, 91, 975])], 0, ⟨"OldLadderModel", "readsLine", "()Z"⟩),
  (12, 145, 0, 0, [(11, 124, [1014, 962, 963, 91, 964])], 0, ⟨"OldLadderModel", "fault", "()I"⟩),
  (12, 148, 0, 1, [(11, 125, [1015, 1017, 59, 91, 1018])], 0, ⟨"OldLadderModel", "tell", "(I)V"⟩),
  (12, 152, 0, 0, [(11, 131, [1035, 1037, 63, 91, 1038])], 0, ⟨"OldLadderModel", "there", "()I"⟩),
  (12, 155, 0, 1, [(11, 132, [1039, 1041, 64, 91, 1042])], 0, ⟨"OldLadderModel", "spent", "(I)I"⟩),
  (12, 158, 0, 1, [(11, 127, [1023, 1025, 60, 91, 1026])], 0, ⟨"OldLadderModel", "isRung", "(I)Z"⟩),
  (12, 161, 0, 1, [(11, 134, [1027, 1029, 61, 91, 1030])], 0, ⟨"OldLadderModel", "tenthsOf", "(I)I"⟩),
  (12, 164, 0, 1, [(11, 133, [1031, 1033, 62, 91, 1034])], 0, ⟨"OldLadderModel", "free", "(I)I"⟩),
  (12, 167, 0, 1, [(11, 128, [1047, 1049, 65, 91, 1050])], 0, ⟨"OldLadderModel", "isClimber", "(I)Z"⟩)]
def CT_7 : List CE := [(12, 170, 0, 1, [(11, 136, [1051, 1053, 66, 91, 1054])], 0, ⟨"OldLadderModel", "strideOf", "(I)I"⟩),
  (12, 173, 2, 2, [(0, 110, [1076, 1077, 91, 1078])], 4, ⟨"OldLadderModel", "has", "(II)Z"⟩),
  (12, 176, 2, 2, [(0, 139, [1067, 1068, 91, 1069])], 4, ⟨"OldLadderModel", "inStride", "(II)I"⟩),
  (12, 180, 2, 1, [(0, 111, [1070, 1071, 91, 1072])], 4, ⟨"OldLadderModel", "bits", "(I)I"⟩),
  (12, 183, 2, 2, [(0, 138, [1073, 1074, 91, 1075])], 4, ⟨"OldLadderModel", "kth", "(II)I"⟩),
  (12, 186, 0, 5, [(11, 140, [1063, 1065, 68, 91, 1066])], 0, ⟨"OldLadderModel", "stepOf", "(IIIII)I"⟩),
  (12, 190, 0, 2, [(11, 141, [1059, 1061, 67, 91, 1062])], 0, ⟨"OldLadderModel", "nextOf", "(II)I"⟩),
  (12, 193, 0, 1, [(11, 130, [1083, 1085, 69, 91, 1086])], 0, ⟨"OldLadderModel", "areRungs", "(I)Z"⟩),
  (12, 196, 0, 3, [(11, 144, [1091, 1093, 70, 91, 1094])], 0, ⟨"OldLadderModel", "go", "(III)V"⟩),
  (12, 200, 0, 2, [(11, 146, [1099, 1101, 71, 91, 1102])], 0, ⟨"OldLadderModel", "climbOn", "(II)V"⟩),
  (12, 204, 0, 2, [(11, 150, [1115, 1117, 72, 91, 1118])], 0, ⟨"OldLadderModel", "copy", "(II)V"⟩),
  (12, 210, 2, 1, [(0, 153, [1127, 1128, 91, 1129])], 4, ⟨"OldLadderModel", "isStride", "(I)Z"⟩),
  (12, 213, 0, 2, [(11, 154, [1131, 1133, 73, 91, 1134])], 0, ⟨"OldLadderModel", "mostBy", "(II)I"⟩),
  (12, 221, 2, 1, [(0, 158, [1165, 1166, 91, 1167])], 4, ⟨"OldLadderModel", "power", "(I)I"⟩),
  (12, 224, 0, 1, [(11, 159, [1161, 1163, 77, 91, 1164])], 0, ⟨"OldLadderModel", "choose", "(I)V"⟩),
  (12, 227, 0, 2, [(11, 160, [1168, 1170, 78, 91, 1171])], 0, ⟨"OldLadderModel", "onBy", "(II)I"⟩),
  (12, 230, 0, 3, [(11, 161, [1172, 1174, 79, 91, 1175])], 0, ⟨"OldLadderModel", "put", "(IJI)V"⟩),
  (12, 234, 0, 1, [(11, 162, [1157, 1159, 76, 91, 1160])], 0, ⟨"OldLadderModel", "layStates", "(I)V"⟩),
  (12, 237, 0, 1, [(11, 129, [1149, 1151, 74, 91, 1152])], 0, ⟨"OldLadderModel", "isSet", "(I)Z"⟩),
  (12, 240, 0, 1, [(11, 163, [1153, 1155, 75, 91, 1156])], 0, ⟨"OldLadderModel", "waysOf", "(I)J"⟩)]
def CT_8 : List CE := [(12, 246, 0, 1, [(11, 169, [1189, 1191, 80, 91, 1192])], 0, ⟨"OldLadderModel", "upBy", "(I)I"⟩),
  (12, 249, 0, 2, [(11, 167, [1193, 1195, 81, 91, 1196])], 0, ⟨"OldLadderModel", "rowOf", "(II)I"⟩),
  (12, 258, 0, 2, [(11, 171, [1208, 1210, 82, 91, 1211])], 0, ⟨"OldLadderModel", "treads", "(II)I"⟩),
  (14, 335, 0, 0, [(100, 181, [363, 364, 365, 92, 366])], 0, ⟨"java/lang/String", "coder", "()B"⟩),
  (14, 492, 0, 0, [(100, 182, [373, 374, 375, 92, 376])], 0, ⟨"java/lang/String", "isLatin1", "()Z"⟩),
  (14, 495, 2, 2, [(0, 184, [377, 378, 93, 379])], 4, ⟨"java/lang/StringLatin1", "charAt", "([BI)C"⟩),
  (14, 1059, 2, 3, [(0, 185, [385, 386, 94, 387])], 4, ⟨"jdk/internal/util/Preconditions", "checkIndex", "(IILjava/util/function/BiFunction;)I"⟩),
  (15, 9, 2, 2, [(0, 183, [380, 381, 92, 382])], 4, ⟨"java/lang/String", "checkIndex", "(II)V"⟩),
  (13, 9, 1, 0, [(0, 65, [106, 107, 84, 108])], 6, ⟨"OldLadder", "<init>", "()V"⟩),
  (13, 12, 1, 0, [(0, 108, [860, 861, 91, 862])], 6, ⟨"OldLadderModel", "<init>", "()V"⟩),
  (13, 15, 0, 2, [(10, 66, [305, 306, 307, 84, 308])], 0, ⟨"OldLadder", "write", "(JI)I"⟩),
  (13, 19, 0, 2, [(11, 113, [948, 949, 950, 91, 951])], 0, ⟨"OldLadderModel", "write", "(JI)I"⟩),
  (13, 20, 0, 0, [(10, 67, [314, 315, 316, 84, 317])], 0, ⟨"OldLadder", "erase", "()I"⟩),
  (13, 24, 0, 0, [(11, 114, [957, 958, 959, 91, 960])], 0, ⟨"OldLadderModel", "erase", "()I"⟩),
  (13, 25, 0, 0, [(10, 68, [318, 319, 320, 84, 321])], 0, ⟨"OldLadder", "fault", "()I"⟩),
  (13, 28, 0, 0, [(11, 124, [961, 962, 963, 91, 964])], 0, ⟨"OldLadderModel", "fault", "()I"⟩),
  (13, 29, 0, 0, [(10, 69, [416, 417, 418, 84, 419])], 0, ⟨"OldLadder", "ladder", "()I"⟩),
  (13, 32, 0, 0, [(11, 126, [1010, 1011, 1012, 91, 1013])], 0, ⟨"OldLadderModel", "ladder", "()I"⟩),
  (13, 33, 0, 2, [(10, 70, [534, 535, 536, 84, 537])], 0, ⟨"OldLadder", "rung", "(II)I"⟩),
  (13, 37, 0, 2, [(11, 135, [1019, 1020, 1021, 91, 1022])], 0, ⟨"OldLadderModel", "rung", "(II)I"⟩)]
def CT_9 : List CE := [(13, 38, 0, 2, [(10, 71, [563, 564, 565, 84, 566])], 0, ⟨"OldLadder", "climber", "(II)I"⟩),
  (13, 41, 0, 2, [(11, 137, [1043, 1044, 1045, 91, 1046])], 0, ⟨"OldLadderModel", "climber", "(II)I"⟩),
  (13, 42, 0, 2, [(10, 72, [594, 595, 596, 84, 597])], 0, ⟨"OldLadder", "as", "(II)I"⟩),
  (13, 45, 0, 2, [(11, 142, [1055, 1056, 1057, 91, 1058])], 0, ⟨"OldLadderModel", "as", "(II)I"⟩),
  (13, 46, 0, 2, [(10, 73, [643, 644, 645, 84, 646])], 0, ⟨"OldLadder", "mind", "(II)I"⟩),
  (13, 49, 0, 2, [(11, 143, [1079, 1080, 1081, 91, 1082])], 0, ⟨"OldLadderModel", "mind", "(II)I"⟩),
  (13, 50, 0, 2, [(10, 74, [651, 652, 653, 84, 654])], 0, ⟨"OldLadder", "step", "(II)I"⟩),
  (13, 53, 0, 2, [(11, 145, [1087, 1088, 1089, 91, 1090])], 0, ⟨"OldLadderModel", "step", "(II)I"⟩),
  (13, 54, 0, 1, [(10, 75, [663, 664, 665, 84, 666])], 0, ⟨"OldLadder", "climb", "(I)I"⟩),
  (13, 58, 0, 1, [(11, 147, [1095, 1096, 1097, 91, 1098])], 0, ⟨"OldLadderModel", "climb", "(I)I"⟩),
  (13, 59, 0, 1, [(10, 76, [677, 678, 679, 84, 680])], 0, ⟨"OldLadder", "lower", "(I)I"⟩),
  (13, 62, 0, 1, [(11, 148, [1103, 1104, 1105, 91, 1106])], 0, ⟨"OldLadderModel", "lower", "(I)I"⟩),
  (13, 63, 0, 2, [(10, 77, [681, 682, 683, 84, 684])], 0, ⟨"OldLadder", "judge", "(II)I"⟩),
  (13, 66, 0, 2, [(11, 149, [1107, 1108, 1109, 91, 1110])], 0, ⟨"OldLadderModel", "judge", "(II)I"⟩),
  (13, 67, 0, 1, [(10, 78, [685, 686, 687, 84, 688])], 0, ⟨"OldLadder", "keep", "(I)I"⟩),
  (13, 70, 0, 1, [(11, 151, [1111, 1112, 1113, 91, 1114])], 0, ⟨"OldLadderModel", "keep", "(I)I"⟩),
  (13, 71, 0, 1, [(10, 79, [698, 699, 700, 84, 701])], 0, ⟨"OldLadder", "back", "(I)I"⟩),
  (13, 74, 0, 1, [(11, 152, [1119, 1120, 1121, 91, 1122])], 0, ⟨"OldLadderModel", "back", "(I)I"⟩),
  (13, 75, 0, 2, [(10, 80, [706, 707, 708, 84, 709])], 0, ⟨"OldLadder", "most", "(II)I"⟩),
  (13, 78, 0, 2, [(11, 155, [1123, 1124, 1125, 91, 1126])], 0, ⟨"OldLadderModel", "most", "(II)I"⟩)]
def CT_10 : List CE := [(13, 79, 0, 1, [(10, 81, [725, 726, 727, 84, 728])], 0, ⟨"OldLadder", "ways", "(I)J"⟩),
  (13, 83, 0, 1, [(11, 164, [1145, 1146, 1147, 91, 1148])], 0, ⟨"OldLadderModel", "ways", "(I)J"⟩),
  (13, 84, 0, 1, [(10, 82, [776, 777, 778, 84, 779])], 0, ⟨"OldLadder", "largest", "(I)I"⟩),
  (13, 87, 0, 1, [(11, 165, [1177, 1178, 1179, 91, 1180])], 0, ⟨"OldLadderModel", "largest", "(I)I"⟩),
  (13, 88, 0, 2, [(10, 83, [780, 781, 782, 84, 783])], 0, ⟨"OldLadder", "order", "(II)I"⟩),
  (13, 91, 0, 2, [(11, 168, [1185, 1186, 1187, 91, 1188])], 0, ⟨"OldLadderModel", "order", "(II)I"⟩),
  (13, 92, 0, 1, [(10, 84, [798, 799, 800, 84, 801])], 0, ⟨"OldLadder", "mends", "(I)I"⟩),
  (13, 95, 0, 1, [(11, 166, [1181, 1182, 1183, 91, 1184])], 0, ⟨"OldLadderModel", "mends", "(I)I"⟩),
  (13, 96, 0, 2, [(10, 85, [806, 807, 808, 84, 809])], 0, ⟨"OldLadder", "spoilt", "(II)I"⟩),
  (13, 99, 0, 2, [(11, 156, [1136, 1137, 1138, 91, 1139])], 0, ⟨"OldLadderModel", "spoilt", "(II)I"⟩),
  (13, 100, 0, 1, [(10, 86, [811, 812, 813, 84, 814])], 0, ⟨"OldLadder", "both", "(I)I"⟩),
  (13, 103, 0, 1, [(11, 157, [1141, 1142, 1143, 91, 1144])], 0, ⟨"OldLadderModel", "both", "(I)I"⟩),
  (13, 104, 0, 2, [(10, 87, [815, 816, 817, 84, 818])], 0, ⟨"OldLadder", "odds", "(II)J"⟩),
  (13, 108, 0, 2, [(11, 170, [1197, 1198, 1199, 91, 1200])], 0, ⟨"OldLadderModel", "odds", "(II)J"⟩),
  (13, 109, 0, 2, [(10, 88, [840, 841, 842, 84, 843])], 0, ⟨"OldLadder", "fits", "(II)I"⟩),
  (13, 112, 0, 2, [(11, 172, [1204, 1205, 1206, 91, 1207])], 0, ⟨"OldLadderModel", "fits", "(II)I"⟩),
  (13, 113, 0, 2, [(10, 89, [846, 847, 848, 84, 849])], 0, ⟨"OldLadder", "make", "(II)I"⟩),
  (13, 116, 0, 2, [(11, 173, [1212, 1213, 1214, 91, 1215])], 0, ⟨"OldLadderModel", "make", "(II)I"⟩),
  (13, 117, 0, 1, [(10, 90, [850, 851, 852, 84, 853])], 0, ⟨"OldLadder", "count", "(I)I"⟩),
  (13, 120, 0, 1, [(11, 174, [1217, 1218, 1219, 91, 1220])], 0, ⟨"OldLadderModel", "count", "(I)I"⟩)]
def CT : List CE := CT_0 ++ (CT_1 ++ (CT_2 ++ (CT_3 ++ (CT_4 ++ (CT_5 ++ (CT_6 ++ (CT_7 ++ (CT_8 ++ (CT_9 ++ (CT_10))))))))))
def NT : List (Nat × Nat × Nat × Nat × Nat × Nat) := [(11, 7, 8, 112, 113, 85), (11, 16, 7, 161, 162, 86), (11, 23, 0, 193, 194, 87), (11, 30, 3, 209, 211, 88), (11, 37, 1, 230, 231, 89), (11, 44, 6, 265, 266, 90), (11, 293, 5, 458, 459, 97), (11, 295, 4, 482, 483, 98), (11, 152, 9, 492, 493, 100), (11, 291, 2, 510, 511, 99), (13, 7, 10, 104, 105, 84), (13, 10, 11, 858, 859, 91)]
def AT : List (Nat × Nat × Nat × Nat) := [(1, 9, 3, 199), (11, 30, 4, 209)]
def IT : List (Nat × Nat × String × Nat × List Nat × List Nat) := [(1, 31, "OldLadder$Told", 533, [9], [0, 1, 2, 3, 4, 5, 6, 7, 8, 10, 11]), (11, 152, "OldLadder$Told", 492, [9], [0, 1, 2, 3, 4, 5, 6, 7, 8, 10, 11]), (11, 291, "OldLadder$Far", 510, [2, 9], [0, 1, 3, 4, 5, 6, 7, 8, 10, 11]), (11, 293, "OldLadder$Near", 458, [4, 5], [0, 1, 2, 3, 6, 7, 8, 9, 10, 11]), (11, 295, "OldLadder$Middle", 482, [4], [0, 1, 2, 3, 5, 6, 7, 8, 9, 10, 11])]
def KT : List (Nat × Nat × Value × Nat) := [(11, 59, .long (255), 309), (11, 197, .long (-2), 733), (11, 222, .long (-3), 819), (11, 227, .long (-4), 820), (11, 229, .long (10), 821), (11, 302, .ref (1000000 + 0), 345), (11, 304, .ref (1000000 + 1), 346), (11, 305, .ref (1000000 + 2), 347), (11, 306, .ref (1000000 + 3), 348), (11, 308, .ref (1000000 + 4), 349), (11, 310, .ref (1000000 + 5), 350), (11, 312, .ref (1000000 + 6), 351), (11, 314, .ref (1000000 + 7), 352), (11, 316, .ref (1000000 + 8), 353), (11, 317, .ref (1000000 + 9), 354), (12, 67, .long (8), 952), (12, 76, .long (255), 956), (12, 91, .int (609357868), 984), (12, 96, .int (178663), 989), (12, 97, .int (361655), 990), (12, 98, .int (4675059), 991), (12, 103, .int (591022), 992), (12, 104, .int (180490541), 993), (12, 105, .int (143860), 994), (12, 106, .int (132588), 995), (12, 107, .int (843549166), 996), (12, 124, .long (4), 1000), (12, 126, .long (7), 1001), (12, 207, .long (6), 1130), (12, 209, .int (268435456), 1135), (12, 216, .long (9), 1140), (12, 244, .long (-2), 1176), (12, 252, .long (-3), 1201), (12, 254, .long (-4), 1202), (12, 256, .long (10), 1203), (12, 261, .long (20), 1216), (17, 265, .int (1431655765), 623), (17, 266, .int (858993459), 624), (17, 267, .int (252645135), 625), (13, 13, .long (4294967295), 1221)]
def SX : List (Nat × String) := [(302, "ladder"), (304, "gone"), (305, "weak"), (306, "sound"), (308, "far"), (310, "near"), (312, "middle"), (314, "told"), (316, "load"), (317, "nobody")]
def gtbl : List Cond := lw_tbl.filter goodWord
def isX : Cond → Bool
  | .fieldLinkNest _ _ _ _ _ _ => true
  | .methodLinkNest _ _ _ _ => true
  | .declares _ => true
  | .castable _ _ => true
  | _ => false
def xtbl : List Cond := lw_tbl.filter isX
def atw (p : Nat) (w : Cond) : Bool := match lw_tbl[p]? with | some v => decide (v = w) | none => false
theorem atw_mem {p : Nat} {w : Cond} (h : atw p w = true) : w ∈ lw_tbl := by
  unfold atw at h
  split at h
  · next v hv => rw [← of_decide_eq_true h]; exact List.mem_of_getElem? hv
  · cases h
theorem atw_g {p : Nat} {w : Cond} (h : (atw p w && goodWord w) = true) : w ∈ gtbl := by
  rw [Bool.and_eq_true] at h
  exact List.mem_filter.mpr ⟨atw_mem h.1, h.2⟩
theorem atw_x {p : Nat} {w : Cond} (h : (atw p w && isX w) = true) : w ∈ xtbl := by
  rw [Bool.and_eq_true] at h
  exact List.mem_filter.mpr ⟨atw_mem h.1, h.2⟩
def okF : FE → Bool
  | (o, i, cis, k, nest, fin, ref, nm, ds, ty, p) => cis.all (fun ci => match vwCl[ci]? with
      | some q => decide (k < q.2.2) && decide (q.2.1 k = (ref, nm, ds, fin))
      | none => false) && decide (parseFieldDescriptor ds = some ty) &&
      (if nest then atw p (.fieldLinkNest (oN o) i ref nm ds "OldLadder") && isX (.fieldLinkNest (oN o) i ref nm ds "OldLadder") else atw p (.fieldLink (oN o) i ref nm ds) && goodWord (.fieldLink (oN o) i ref nm ds))
set_option maxRecDepth 100000 in
theorem FT_ok : FT.all okF = true := by decide +kernel
def okw (ps : List Nat) (ws : List Cond) : Bool := decide (ps.length = ws.length) && (ps.zip ws).all (fun q => atw q.1 q.2 && (goodWord q.2 || isX q.2))
/-- the words that a call of a kind needs -/
def wdC (kd : Nat) (own : String) (i : Nat) (x : MethodName) (C : String) (e : ME) : List Cond := match kd with
  | 0 => [.methodLink own i e.1, .instanceMethod e.1, .selects C e.1 e.1, .initialized C, .code e.1 e.2.1 e.2.2.1 e.2.2.2.1]
  | 1 => [.methodLinkNest own i e.1 "OldLadder", .instanceMethod e.1, .selects C e.1 e.1, .initialized C, .code e.1 e.2.1 e.2.2.1 e.2.2.2.1]
  | 2 => [.methodLink own i x, .sameMethod x.cls x.cls x.name x.desc, .selects C x e.1, .instanceMethod e.1, .initialized e.1.cls, .code e.1 e.2.1 e.2.2.1 e.2.2.2.1]
  | 3 => [.methodLink own i x, .sameMethod x.cls x.cls x.name x.desc, .selects C x e.1, .instanceMethod e.1, .initialized e.1.cls, .code e.1 e.2.1 e.2.2.1 e.2.2.2.1, .declares x]
  | 4 => [.methodLink own i e.1, .static e.1, .initialized e.1.cls, .code e.1 e.2.1 e.2.2.1 e.2.2.2.1]
  | 5 => [.methodLinkNest own i e.1 "OldLadder", .static e.1, .initialized e.1.cls, .code e.1 e.2.1 e.2.2.1 e.2.2.2.1]
  | 6 => [.methodLink own i e.1, .instanceMethod e.1, .initialized e.1.cls, .code e.1 e.2.1 e.2.2.1 e.2.2.2.1]
  | 7 => [.methodLinkNest own i e.1 "OldLadder", .instanceMethod e.1, .initialized e.1.cls, .code e.1 e.2.1 e.2.2.1 e.2.2.2.1]
  | _ => []
def okn (y : MethodName) (na : Nat) : Bool := decide (y.cls ≠ "java/lang/invoke/MethodHandle") && decide (y.cls ≠ "java/lang/invoke/VarHandle") && decide ((parseMethodDescriptor y.desc).map (fun d => d.parameters.length) = some na)
def okC : CE → Bool
  | (o, i, op, na, tg, kd, x) => decide (kd < 10) && (if kd = 8 then decide (op = 1) else if kd = 9 then decide (op = 2) else
      tg.all (fun q => decide (q.2.1 < MT.length) && okw q.2.2 (wdC kd (oN o) i x (cN q.1) (mE q.2.1)) && okn (mY q.2.1) na &&
      (match kd with
        | 0 => decide (op = 0) && decide ((mY q.2.1).cls = cN q.1)
        | 1 => decide (op = 0) && decide ((mY q.2.1).cls = cN q.1)
        | 2 => decide (op = 0) && decide (mY q.2.1 = x) && okn x na
        | 3 => decide (op = 0) && okn x na
        | 4 => decide (op = 2)
        | 5 => decide (op = 2)
        | _ => decide (op = 1) && decide ((mY q.2.1).name = "<init>") && decide (mR q.2.1 = none))))

set_option maxRecDepth 100000 in
theorem CT_ok0 : CT_0.all okC = true := by decide +kernel
set_option maxRecDepth 100000 in
theorem CT_ok1 : CT_1.all okC = true := by decide +kernel
set_option maxRecDepth 100000 in
theorem CT_ok2 : CT_2.all okC = true := by decide +kernel
set_option maxRecDepth 100000 in
theorem CT_ok3 : CT_3.all okC = true := by decide +kernel
set_option maxRecDepth 100000 in
theorem CT_ok4 : CT_4.all okC = true := by decide +kernel
set_option maxRecDepth 100000 in
theorem CT_ok5 : CT_5.all okC = true := by decide +kernel
set_option maxRecDepth 100000 in
theorem CT_ok6 : CT_6.all okC = true := by decide +kernel
set_option maxRecDepth 100000 in
theorem CT_ok7 : CT_7.all okC = true := by decide +kernel
set_option maxRecDepth 100000 in
theorem CT_ok8 : CT_8.all okC = true := by decide +kernel
set_option maxRecDepth 100000 in
theorem CT_ok9 : CT_9.all okC = true := by decide +kernel
set_option maxRecDepth 100000 in
theorem CT_ok10 : CT_10.all okC = true := by decide +kernel
theorem CT_ok : CT.all okC = true := by
  unfold CT
  simp only [List.all_append, CT_ok0, CT_ok1, CT_ok2, CT_ok3, CT_ok4, CT_ok5, CT_ok6, CT_ok7, CT_ok8, CT_ok9, CT_ok10, Bool.and_self]
def okM (e : ME) : Bool := plainFor e.1 && decide (e.2.2.1 ≤ 20) && decide (oN e.2.2.2.2 = e.1.cls)
set_option maxRecDepth 100000 in
theorem MT_ok : MT.all okM = true := by decide +kernel
def okNT : (Nat × Nat × Nat × Nat × Nat × Nat) → Bool
  | (o, i, ci, p1, p2, p3) => match vwCl[ci]? with
    | some q => atw p1 (.classLink (oN o) i q.1) && goodWord (.classLink (oN o) i q.1) && (atw p2 (.instantiable q.1 q.2.2) && goodWord (.instantiable q.1 q.2.2)) && (atw p3 (.initialized q.1) && goodWord (.initialized q.1))
    | none => false
theorem NT_ok : NT.all okNT = true := by decide +kernel
def aN (t : Nat) : String := if t = 3 then RX0 else RX4
def okAT : (Nat × Nat × Nat × Nat) → Bool
  | (o, i, t, p) => (decide (t = 3) || decide (t = 4)) && (atw p (.classLink (oN o) i (aN t)) && goodWord (.classLink (oN o) i (aN t)))
theorem AT_ok : AT.all okAT = true := by decide +kernel
def okIT : (Nat × Nat × String × Nat × List Nat × List Nat) → Bool
  | (o, i, C, p, yes, no) => (atw p (.classLink (oN o) i C) && goodWord (.classLink (oN o) i C)) && yes.all (fun ci => match vwCl[ci]? with
    | some q => decide (q.1 = C) || decide (Cond.castable q.1 C ∈ xtbl)
    | none => false) && no.all (fun ci => match vwCl[ci]? with
    | some q => decide (Cond.not (.castable q.1 C) ∈ flatC (Jvm.Cond.and given_1 narrow_1))
    | none => false)

theorem IT_ok : IT.all okIT = true := by decide +kernel
def GS : List (Nat × Nat × Value × String × String × String × Nat) := [(14, 38, .int 1, "java/lang/String", "COMPACT_STRINGS", "Z", 367), (14, 1053, .retAddr 0, "jdk/internal/util/Preconditions", "SIOOBE_FORMATTER", "Ljava/util/function/BiFunction;", 383)]
def EF : List (Nat × Nat × Nat × String × String × Nat) := [(14, 9, 0, "value", "[B", 1228), (14, 15, 1, "coder", "B", 1229)]
def okKT : (Nat × Nat × Value × Nat) → Bool
  | (o, i, v, p) => match v with
    | .int c => atw p (.constant (oN o) i c) && goodWord (.constant (oN o) i c)
    | .long c => atw p (.constantLong (oN o) i c) && goodWord (.constantLong (oN o) i c)
    | .ref r => decide (o = 11) && (match SX[r - 1000000]? with
      | some q => decide (q.1 = i) && decide (1000000 ≤ r) && decide (r < 1000010) && atw p (.stringRef (oN o) i q.2)
      | none => false)
    | _ => false
theorem KT_ok : KT.all okKT = true := by decide +kernel
def okGS : (Nat × Nat × Value × String × String × String × Nat) → Bool
  | (o, i, v, C, n, d, p) => atw p (.fieldLink (oN o) i C n d) && goodWord (.fieldLink (oN o) i C n d)
theorem GS_ok : GS.all okGS = true := by decide +kernel
def okEF : (Nat × Nat × Nat × String × String × Nat) → Bool
  | (o, i, z, n, d, p) => atw p (.fieldLink (oN o) i RJ0 n d) && goodWord (.fieldLink (oN o) i RJ0 n d) && decide ((z, n, d) = (0, "value", "[B") ∨ (z, n, d) = (1, "coder", "B"))
theorem EF_ok : EF.all okEF = true := by decide +kernel

