def wsL_law_r1 : List Cond := [Cond.classLink RL 7 RX5, Cond.instantiable RX5 9, Cond.initialized RX5, Cond.classLink RL 10 RX6, Cond.instantiable RX6 30, Cond.initialized RX6, Cond.methodLink RL 9 yX5_init, Cond.instanceMethod yX5_init, Cond.code yX5_init cX5_init 2 none, Cond.methodLink RX5 1 objectInit, Cond.instanceMethod objectInit, Cond.code objectInit ⟨#[0xb1]⟩ 1 none, Cond.classLink RX5 7 RX4, Cond.instantiable RX4 8, Cond.initialized RX4, Cond.fieldLink RX5 10 "CellsInRow" "tape" "LCellsInRow$Tape;", Cond.classLink RX5 16 RX1, Cond.instantiable RX1 12, Cond.initialized RX1, Cond.fieldLink RX5 19 "CellsInRow" "now" "LCellsInRow$Row;", Cond.fieldLink RX5 23 "CellsInRow" "told" "LCellsInRow$Row;", Cond.fieldLink RX5 26 "CellsInRow" "trial" "LCellsInRow$Row;", Cond.classLink RX5 29 RX2, Cond.instantiable RX2 4]
def wsL_law_r2 : List Cond := [Cond.initialized RX2, Cond.fieldLink RX5 32 "CellsInRow" "seen" "LCellsInRow$Seen;", Cond.classLink RX5 36 RX0, Cond.fieldLink RX5 38 "CellsInRow" "images" "[LCellsInRow$Image;", Cond.classLink RX5 42 RX3, Cond.fieldLink RX5 44 "CellsInRow" "sheets" "[LCellsInRow$Sheet;", Cond.classLink RX5 48 "[[I", Cond.arrayClass .int, Cond.fieldLink RX5 50 "CellsInRow" "courses" "[[I", Cond.fieldLink RX5 53 "CellsInRow" "latestTorn" "I", Cond.instantiable RX0 3, Cond.initialized RX0, Cond.instantiable RX3 4, Cond.initialized RX3, Cond.instanceMethod yX4_init, Cond.code yX4_init cX4_init 1 none, Cond.methodLink RX4 3 objectInit, Cond.fieldLink RX4 9 "CellsInRow$Tape" "bytes" "[I", Cond.instanceMethod yX1_init, Cond.code yX1_init cX1_init 1 none, Cond.methodLink RX1 3 objectInit, Cond.fieldLink RX1 9 "CellsInRow$Row" "bridged" "I", Cond.fieldLink RX1 15 "CellsInRow$Row" "kind" "[I", Cond.fieldLink RX1 19 "CellsInRow$Row" "room" "[I"]
def wsL_law_r3 : List Cond := [Cond.fieldLink RX1 22 "CellsInRow$Row" "charge" "[I", Cond.fieldLink RX1 25 "CellsInRow$Row" "leak" "[I", Cond.fieldLink RX1 28 "CellsInRow$Row" "plan" "[I", Cond.instanceMethod yX2_init, Cond.code yX2_init cX2_init 1 none, Cond.methodLink RX2 3 objectInit, Cond.fieldLink RX2 9 "CellsInRow$Seen" "hour" "[I", Cond.fieldLink RX2 15 "CellsInRow$Seen" "cell" "[I", Cond.fieldLink RX2 18 "CellsInRow$Seen" "value" "[I", Cond.instanceMethod yX0_init, Cond.code yX0_init cX0_init 1 none, Cond.methodLink RX0 1 objectInit, Cond.classLink RX0 7 RX1, Cond.fieldLink RX0 10 "CellsInRow$Image" "row" "LCellsInRow$Row;", Cond.classLink RX0 16 RX2, Cond.fieldLink RX0 19 "CellsInRow$Image" "seen" "LCellsInRow$Seen;", Cond.instanceMethod yX3_init, Cond.code yX3_init cX3_init 1 none, Cond.methodLink RX3 3 objectInit, Cond.fieldLink RX3 9 "CellsInRow$Sheet" "places" "[I", Cond.methodLink RL 12 yX6_init, Cond.instanceMethod yX6_init, Cond.code yX6_init cX6_init 2 none, Cond.methodLink RX6 1 objectInit]
def wsL_law_r4 : List Cond := [Cond.fieldLink RX6 7 "CellsInRowModel" "st" "[I", Cond.fieldLink RX6 13 "CellsInRowModel" "now" "[I", Cond.arrayClass .boolean, Cond.fieldLink RX6 16 "CellsInRowModel" "isKept" "[Z", Cond.fieldLink RX6 20 "CellsInRowModel" "draft" "[I", Cond.fieldLink RX6 23 "CellsInRowModel" "tape" "[I", Cond.fieldLink RX6 26 "CellsInRowModel" "charges" "[I", Cond.fieldLink RX6 29 "CellsInRowModel" "byLeak" "[I", Cond.fieldLink RX6 32 "CellsInRowModel" "lanes" "[I", Cond.fieldLink RX6 35 "CellsInRowModel" "sizes" "[I", Cond.fieldLink RX6 38 "CellsInRowModel" "cells" "[I", Cond.fieldLink RX6 41 "CellsInRowModel" "before" "[I", Cond.methodLink RX6 44 yX6_firstDraft, Cond.instanceMethod yX6_firstDraft, Cond.selects RX6 yX6_firstDraft yX6_firstDraft, Cond.code yX6_firstDraft cX6_firstDraft 2 none, Cond.fieldLink RX6 50 "CellsInRowModel" "hasPlan" "Z", Cond.methodLink RX6 47 yX6_keepDraft, Cond.instanceMethod yX6_keepDraft, Cond.selects RX6 yX6_keepDraft yX6_keepDraft, Cond.code yX6_keepDraft cX6_keepDraft 2 none, Cond.methodLink RL 13 yX5_feed, Cond.instanceMethod yX5_feed, Cond.selects RX5 yX5_feed yX5_feed]
def wsL_law_r5 : List Cond := [Cond.code yX5_feed cX5_feed 2 (some .int), Cond.fieldLink RX5 59 "CellsInRow$Tape" "length" "I", Cond.fieldLink RX5 62 "CellsInRow$Tape" "bytes" "[I", Cond.methodLink RL 17 yX6_feed, Cond.instanceMethod yX6_feed, Cond.selects RX6 yX6_feed yX6_feed, Cond.code yX6_feed cX6_feed 2 (some .int), Cond.constantLong RX6 54 (127), Cond.fieldLink RX6 60 "CellsInRowModel" "taped" "I", Cond.methodLink RX6 56 yX6_in, Cond.static yX6_in, Cond.code yX6_in cX6_in 6 (some .boolean), Cond.methodLink RL 18 yX5_end, Cond.instanceMethod yX5_end, Cond.selects RX5 yX5_end yX5_end, Cond.code yX5_end cX5_end 3 (some .int), Cond.methodLink RL 21 yX6_end, Cond.instanceMethod yX6_end, Cond.selects RX6 yX6_end yX6_end, Cond.code yX6_end cX6_end 3 (some .int), Cond.methodLink RL 22 yX5_text, Cond.instanceMethod yX5_text, Cond.selects RX5 yX5_text yX5_text, Cond.code yX5_text cX5_text 3 (some .int)]
def wsL_law_r6 : List Cond := [Cond.fieldLink RX5 74 "CellsInRow$Seen" "size" "I", Cond.fieldLink RX5 77 "CellsInRow$Image" "there" "Z", Cond.methodLink RX5 66 yX4_tellTo, Cond.instanceMethod yX4_tellTo, Cond.selects RX4 yX4_tellTo yX4_tellTo, Cond.code yX4_tellTo cX4_tellTo 3 (some .int), Cond.fieldLink RX4 20 "CellsInRow$Tape" "place" "I", Cond.fieldLink RX4 24 "CellsInRow$Tape" "planned" "Z", Cond.fieldLink RX4 28 "CellsInRow$Tape" "latestFault" "I", Cond.fieldLink RX4 34 "CellsInRow$Tape" "token" "I", Cond.fieldLink RX4 41 "CellsInRow$Tape" "from" "I", Cond.methodLink RX4 15 yX1_becomesEmpty, Cond.instanceMethod yX1_becomesEmpty, Cond.selects RX1 yX1_becomesEmpty yX1_becomesEmpty, Cond.code yX1_becomesEmpty cX1_becomesEmpty 1 none, Cond.fieldLink RX1 31 "CellsInRow$Row" "cells" "I", Cond.fieldLink RX1 34 "CellsInRow$Row" "signs" "I", Cond.fieldLink RX1 37 "CellsInRow$Row" "hour" "I", Cond.fieldLink RX1 40 "CellsInRow$Row" "stops" "I", Cond.fieldLink RX1 43 "CellsInRow$Row" "waste" "I", Cond.fieldLink RX1 46 "CellsInRow$Row" "done" "I", Cond.methodLink RX4 31 yX4_toNextToken, Cond.instanceMethod yX4_toNextToken, Cond.selects RX4 yX4_toNextToken yX4_toNextToken]
def wsL_law_r7 : List Cond := [Cond.code yX4_toNextToken cX4_toNextToken 2 none, Cond.fieldLink RX4 108 "CellsInRow$Tape" "length" "I", Cond.fieldLink RX4 76 "CellsInRow$Tape" "number" "I", Cond.methodLink RX4 104 yX4_passAll, Cond.instanceMethod yX4_passAll, Cond.selects RX4 yX4_passAll yX4_passAll, Cond.code yX4_passAll cX4_passAll 3 none, Cond.methodLink RX4 110 yX4_numberPassed, Cond.instanceMethod yX4_numberPassed, Cond.selects RX4 yX4_numberPassed yX4_numberPassed, Cond.code yX4_numberPassed cX4_numberPassed 3 (some .int), Cond.methodLink RX4 37 yX4_lineIsTaken, Cond.instanceMethod yX4_lineIsTaken, Cond.selects RX4 yX4_lineIsTaken yX4_lineIsTaken, Cond.code yX4_lineIsTaken cX4_lineIsTaken 3 (some .boolean), Cond.methodLink RX4 44 yX4_misplaced, Cond.instanceMethod yX4_misplaced, Cond.selects RX4 yX4_misplaced yX4_misplaced, Cond.code yX4_misplaced cX4_misplaced 1 (some .boolean), Cond.methodLink RX4 68 yX4_refused, Cond.instanceMethod yX4_refused, Cond.selects RX4 yX4_refused yX4_refused, Cond.code yX4_refused cX4_refused 2 (some .boolean), Cond.methodLink RX4 50 yX4_nameIs]
def wsL_law_r8 : List Cond := [Cond.instanceMethod yX4_nameIs, Cond.selects RX4 yX4_nameIs yX4_nameIs, Cond.code yX4_nameIs cX4_nameIs 3 (some .boolean), Cond.methodLink RX4 95 yJ0_length_8abf5, Cond.instanceMethod yJ0_length_8abf5, Cond.selects RJ0 yJ0_length_8abf5 yJ0_length_8abf5, Cond.initialized RJ0, Cond.code yJ0_length_8abf5 cJ0_length_8abf5 1 (some .int), Cond.fieldLink RJ0 9 "java/lang/String" "value" "[B", Cond.methodLink RJ0 335 yJ0_coder_7d493, Cond.instanceMethod yJ0_coder_7d493, Cond.selects RJ0 yJ0_coder_7d493 yJ0_coder_7d493, Cond.code yJ0_coder_7d493 cJ0_coder_7d493 1 (some .byte), Cond.fieldLink RJ0 38 "java/lang/String" "COMPACT_STRINGS" "Z", Cond.fieldLink RJ0 15 "java/lang/String" "coder" "B", Cond.methodLink RX4 100 yJ0_charAt_5068e, Cond.instanceMethod yJ0_charAt_5068e, Cond.selects RJ0 yJ0_charAt_5068e yJ0_charAt_5068e, Cond.code yJ0_charAt_5068e cJ0_charAt_5068e 2 (some .char), Cond.methodLink RJ0 492 yJ0_isLatin1_aae02, Cond.instanceMethod yJ0_isLatin1_aae02, Cond.selects RJ0 yJ0_isLatin1_aae02 yJ0_isLatin1_aae02, Cond.code yJ0_isLatin1_aae02 cJ0_isLatin1_aae02 1 (some .boolean), Cond.methodLink RJ0 495 yJ1_charAt_3b067]
def wsL_law_r9 : List Cond := [Cond.static yJ1_charAt_3b067, Cond.initialized RJ1, Cond.code yJ1_charAt_3b067 cJ1_charAt_3b067 2 (some .char), Cond.methodLink RJ1 9 yJ0_checkIndex_df160, Cond.static yJ0_checkIndex_df160, Cond.code yJ0_checkIndex_df160 cJ0_checkIndex_df160 2 none, Cond.fieldLink RJ0 1053 "jdk/internal/util/Preconditions" "SIOOBE_FORMATTER" "Ljava/util/function/BiFunction;", Cond.methodLink RJ0 1059 yJ3_checkIndex_8e157, Cond.static yJ3_checkIndex_8e157, Cond.initialized RJ3, Cond.code yJ3_checkIndex_8e157 cJ3_checkIndex_8e157 3 (some .int), Cond.methodLink RJ0 498 yJ2_charAt_3b067, Cond.static yJ2_charAt_3b067, Cond.initialized RJ2, Cond.code yJ2_charAt_3b067 cJ2_charAt_3b067 2 (some .char), Cond.methodLink RJ2 67 yJ2_checkIndex_2214a, Cond.static yJ2_checkIndex_2214a, Cond.code yJ2_checkIndex_2214a cJ2_checkIndex_2214a 2 none, Cond.methodLink RJ2 48 yJ2_length_9d52b, Cond.static yJ2_length_9d52b, Cond.code yJ2_length_9d52b cJ2_length_9d52b 1 (some .int), Cond.methodLink RJ2 414 yJ0_checkIndex_df160, Cond.methodLink RJ2 71 yJ2_getChar_3b067, Cond.static yJ2_getChar_3b067]
def wsL_law_r10 : List Cond := [Cond.code yJ2_getChar_3b067 cJ2_getChar_3b067 2 (some .char), Cond.fieldLink RJ2 44 "java/lang/StringUTF16" "$assertionsDisabled" "Z", Cond.fieldLink RJ2 59 "java/lang/StringUTF16" "HI_BYTE_SHIFT" "I", Cond.fieldLink RJ2 63 "java/lang/StringUTF16" "LO_BYTE_SHIFT" "I", Cond.methodLink RX4 54 yX4_planIsTaken, Cond.instanceMethod yX4_planIsTaken, Cond.selects RX4 yX4_planIsTaken yX4_planIsTaken, Cond.code yX4_planIsTaken cX4_planIsTaken 3 (some .boolean), Cond.methodLink RX4 83 yX1_appendSign, Cond.instanceMethod yX1_appendSign, Cond.selects RX1 yX1_appendSign yX1_appendSign, Cond.code yX1_appendSign cX1_appendSign 2 none, Cond.methodLink RX4 57 yX4_kindNamed, Cond.instanceMethod yX4_kindNamed, Cond.selects RX4 yX4_kindNamed yX4_kindNamed, Cond.code yX4_kindNamed cX4_kindNamed 1 (some .int), Cond.methodLink RX4 61 yX4_cellIsTaken, Cond.instanceMethod yX4_cellIsTaken, Cond.selects RX4 yX4_cellIsTaken yX4_cellIsTaken, Cond.code yX4_cellIsTaken cX4_cellIsTaken 5 (some .boolean), Cond.fieldLink RX4 65 "CellsInRow$Row" "cells" "I", Cond.methodLink RX4 72 yX4_numberIsTaken, Cond.instanceMethod yX4_numberIsTaken, Cond.selects RX4 yX4_numberIsTaken yX4_numberIsTaken]
def wsL_law_r11 : List Cond := [Cond.code yX4_numberIsTaken cX4_numberIsTaken 3 (some .boolean), Cond.methodLink RX4 79 yX1_appendCell, Cond.instanceMethod yX1_appendCell, Cond.selects RX1 yX1_appendCell yX1_appendCell, Cond.code yX1_appendCell cX1_appendCell 5 none, Cond.methodLink RX5 70 yX1_becomes, Cond.instanceMethod yX1_becomes, Cond.selects RX1 yX1_becomes yX1_becomes, Cond.code yX1_becomes cX1_becomes 2 none, Cond.methodLink RX1 49 arraycopyName, Cond.native arraycopyName, Cond.static arraycopyName, Cond.initialized "java/lang/System", Cond.methodLink RL 26 yX6_text, Cond.instanceMethod yX6_text, Cond.selects RX6 yX6_text yX6_text, Cond.code yX6_text cX6_text 2 (some .int), Cond.fieldLink RX6 64 "CellsInRowModel" "fault" "I", Cond.fieldLink RX6 73 "CellsInRowModel" "pos" "I", Cond.fieldLink RX6 84 "CellsInRowModel" "sort" "I", Cond.fieldLink RX6 70 "CellsInRowModel" "wrongAt" "I", Cond.methodLink RX6 102 yX6_reads, Cond.instanceMethod yX6_reads, Cond.selects RX6 yX6_reads yX6_reads]
def wsL_law_r12 : List Cond := [Cond.code yX6_reads cX6_reads 2 none, Cond.fieldLink RX6 67 "CellsInRowModel" "begun" "I", Cond.constantLong RX6 87 (97), Cond.constantLong RX6 89 (122), Cond.constantLong RX6 91 (48), Cond.constantLong RX6 93 (57), Cond.fieldLink RX6 95 "CellsInRowModel" "value" "I", Cond.methodLink RX6 76 yX6_byteAt, Cond.instanceMethod yX6_byteAt, Cond.selects RX6 yX6_byteAt yX6_byteAt, Cond.code yX6_byteAt cX6_byteAt 2 (some .int), Cond.methodLink RX6 98 yX6_requires, Cond.instanceMethod yX6_requires, Cond.selects RX6 yX6_requires yX6_requires, Cond.code yX6_requires cX6_requires 3 none, Cond.methodLink RX6 120 yX6_readLine, Cond.instanceMethod yX6_readLine, Cond.selects RX6 yX6_readLine yX6_readLine, Cond.code yX6_readLine cX6_readLine 2 none, Cond.methodLink RX6 109 yX6_lineNow, Cond.instanceMethod yX6_lineNow, Cond.selects RX6 yX6_lineNow yX6_lineNow, Cond.code yX6_lineNow cX6_lineNow 1 (some .int), Cond.methodLink RX6 80 yX6_is]
def wsL_law_r13 : List Cond := [Cond.instanceMethod yX6_is, Cond.selects RX6 yX6_is yX6_is, Cond.code yX6_is cX6_is 6 (some .boolean), Cond.methodLink RX6 113 yX6_readPlan, Cond.instanceMethod yX6_readPlan, Cond.selects RX6 yX6_readPlan yX6_readPlan, Cond.code yX6_readPlan cX6_readPlan 1 none, Cond.methodLink RX6 105 yX6_readNumber, Cond.instanceMethod yX6_readNumber, Cond.selects RX6 yX6_readNumber yX6_readNumber, Cond.code yX6_readNumber cX6_readNumber 4 (some .int), Cond.methodLink RX6 116 yX6_readUnit, Cond.instanceMethod yX6_readUnit, Cond.selects RX6 yX6_readUnit yX6_readUnit, Cond.code yX6_readUnit cX6_readUnit 3 none, Cond.methodLink RL 27 yX5_fault, Cond.instanceMethod yX5_fault, Cond.selects RX5 yX5_fault yX5_fault, Cond.code yX5_fault cX5_fault 1 (some .int), Cond.fieldLink RX5 81 "CellsInRow$Tape" "latestFault" "I", Cond.methodLink RL 30 yX6_fault, Cond.instanceMethod yX6_fault, Cond.selects RX6 yX6_fault yX6_fault, Cond.code yX6_fault cX6_fault 1 (some .int)]
def wsL_law_r14 : List Cond := [Cond.methodLink RL 31 yX5_rule, Cond.instanceMethod yX5_rule, Cond.selects RX5 yX5_rule yX5_rule, Cond.code yX5_rule cX5_rule 2 (some .int), Cond.fieldLink RX5 84 "CellsInRow$Row" "cells" "I", Cond.fieldLink RX5 87 "CellsInRow$Row" "signs" "I", Cond.fieldLink RX5 90 "CellsInRow$Row" "hour" "I", Cond.fieldLink RX5 93 "CellsInRow$Row" "stops" "I", Cond.fieldLink RX5 96 "CellsInRow$Row" "waste" "I", Cond.fieldLink RX5 99 "CellsInRow$Row" "done" "I", Cond.methodLink RX5 102 yX1_chargesSummed, Cond.instanceMethod yX1_chargesSummed, Cond.selects RX1 yX1_chargesSummed yX1_chargesSummed, Cond.code yX1_chargesSummed cX1_chargesSummed 3 (some .int), Cond.methodLink RX5 106 yX1_current, Cond.instanceMethod yX1_current, Cond.selects RX1 yX1_current yX1_current, Cond.code yX1_current cX1_current 1 (some .int), Cond.methodLink RX5 109 yX1_stopsBy, Cond.instanceMethod yX1_stopsBy, Cond.selects RX1 yX1_stopsBy yX1_stopsBy, Cond.code yX1_stopsBy cX1_stopsBy 3 (some .boolean), Cond.methodLink RX1 55 yX1_cellStopsBy, Cond.instanceMethod yX1_cellStopsBy]
def wsL_law_r15 : List Cond := [Cond.selects RX1 yX1_cellStopsBy yX1_cellStopsBy, Cond.code yX1_cellStopsBy cX1_cellStopsBy 3 (some .boolean), Cond.methodLink RL 34 yX6_rule, Cond.instanceMethod yX6_rule, Cond.selects RX6 yX6_rule yX6_rule, Cond.code yX6_rule cX6_rule 2 (some .int), Cond.methodLink RX6 185 yX6_starts, Cond.instanceMethod yX6_starts, Cond.selects RX6 yX6_starts yX6_starts, Cond.code yX6_starts cX6_starts 2 none, Cond.fieldLink RX6 123 "CellsInRowModel" "bridged" "I", Cond.fieldLink RX6 126 "CellsInRowModel" "doneMany" "I", Cond.fieldLink RX6 129 "CellsInRowModel" "stopMany" "I", Cond.fieldLink RX6 132 "CellsInRowModel" "wasteMany" "I", Cond.methodLink RX6 188 yX6_sumOf, Cond.instanceMethod yX6_sumOf, Cond.selects RX6 yX6_sumOf yX6_sumOf, Cond.code yX6_sumOf cX6_sumOf 4 (some .int), Cond.methodLink RX6 135 yX6_of, Cond.instanceMethod yX6_of, Cond.selects RX6 yX6_of yX6_of, Cond.code yX6_of cX6_of 3 (some .int), Cond.methodLink RX6 176 yX6_currentNow, Cond.instanceMethod yX6_currentNow]
def wsL_law_r16 : List Cond := [Cond.selects RX6 yX6_currentNow yX6_currentNow, Cond.code yX6_currentNow cX6_currentNow 1 (some .int), Cond.methodLink RX6 159 yX6_anyStops, Cond.instanceMethod yX6_anyStops, Cond.selects RX6 yX6_anyStops yX6_anyStops, Cond.code yX6_anyStops cX6_anyStops 4 (some .boolean), Cond.methodLink RX6 138 yX6_stopsBy, Cond.instanceMethod yX6_stopsBy, Cond.selects RX6 yX6_stopsBy yX6_stopsBy, Cond.code yX6_stopsBy cX6_stopsBy 3 (some .boolean), Cond.methodLink RX6 191 yX6_flag, Cond.static yX6_flag, Cond.code yX6_flag cX6_flag 1 (some .int), Cond.methodLink RL 35 yX5_unit, Cond.instanceMethod yX5_unit, Cond.selects RX5 yX5_unit yX5_unit, Cond.code yX5_unit cX5_unit 3 (some .int), Cond.fieldLink RX5 116 "CellsInRow$Row" "kind" "[I", Cond.fieldLink RX5 119 "CellsInRow$Row" "room" "[I", Cond.fieldLink RX5 122 "CellsInRow$Row" "charge" "[I", Cond.fieldLink RX5 125 "CellsInRow$Row" "leak" "[I", Cond.methodLink RX5 113 yX5_isCell, Cond.instanceMethod yX5_isCell, Cond.selects RX5 yX5_isCell yX5_isCell]
def wsL_law_r17 : List Cond := [Cond.code yX5_isCell cX5_isCell 2 (some .boolean), Cond.methodLink RL 39 yX6_unit, Cond.instanceMethod yX6_unit, Cond.selects RX6 yX6_unit yX6_unit, Cond.code yX6_unit cX6_unit 3 (some .int), Cond.constantLong RX6 197 (3), Cond.methodLink RX6 194 yX6_isUnit, Cond.instanceMethod yX6_isUnit, Cond.selects RX6 yX6_isUnit yX6_isUnit, Cond.code yX6_isUnit cX6_isUnit 2 (some .boolean), Cond.methodLink RL 40 yX5_sign, Cond.instanceMethod yX5_sign, Cond.selects RX5 yX5_sign yX5_sign, Cond.code yX5_sign cX5_sign 2 (some .int), Cond.fieldLink RX5 131 "CellsInRow$Row" "plan" "[I", Cond.methodLink RX5 128 yX5_isSign, Cond.instanceMethod yX5_isSign, Cond.selects RX5 yX5_isSign yX5_isSign, Cond.code yX5_isSign cX5_isSign 2 (some .boolean), Cond.methodLink RL 43 yX6_sign, Cond.instanceMethod yX6_sign, Cond.selects RX6 yX6_sign yX6_sign, Cond.code yX6_sign cX6_sign 2 (some .int), Cond.methodLink RX6 199 yX6_isSign]
def wsL_law_r18 : List Cond := [Cond.instanceMethod yX6_isSign, Cond.selects RX6 yX6_isSign yX6_isSign, Cond.code yX6_isSign cX6_isSign 2 (some .boolean), Cond.methodLink RL 44 yX5_alter, Cond.instanceMethod yX5_alter, Cond.selects RX5 yX5_alter yX5_alter, Cond.code yX5_alter cX5_alter 6 (some .int), Cond.methodLink RX5 134 yX5_isOfUnit, Cond.static yX5_isOfUnit, Cond.code yX5_isOfUnit cX5_isOfUnit 2 (some .boolean), Cond.methodLink RL 48 yX6_alter, Cond.instanceMethod yX6_alter, Cond.selects RX6 yX6_alter yX6_alter, Cond.code yX6_alter cX6_alter 4 (some .int), Cond.methodLink RX6 202 yX6_mostOf, Cond.static yX6_mostOf, Cond.code yX6_mostOf cX6_mostOf 1 (some .int), Cond.methodLink RX6 205 yX6_becomes, Cond.instanceMethod yX6_becomes, Cond.selects RX6 yX6_becomes yX6_becomes, Cond.code yX6_becomes cX6_becomes 4 (some .int), Cond.methodLink RL 49 yX5_set, Cond.instanceMethod yX5_set, Cond.selects RX5 yX5_set yX5_set]
def wsL_law_r19 : List Cond := [Cond.code yX5_set cX5_set 4 (some .int), Cond.methodLink RX5 138 yX5_isSignValue, Cond.static yX5_isSignValue, Cond.code yX5_isSignValue cX5_isSignValue 1 (some .boolean), Cond.methodLink RL 52 yX6_set, Cond.instanceMethod yX6_set, Cond.selects RX6 yX6_set yX6_set, Cond.code yX6_set cX6_set 3 (some .int), Cond.methodLink RX6 210 yX6_isTold, Cond.static yX6_isTold, Cond.code yX6_isTold cX6_isTold 1 (some .boolean), Cond.constantLong RX6 208 (18), Cond.methodLink RL 53 yX5_add, Cond.instanceMethod yX5_add, Cond.selects RX5 yX5_add yX5_add, Cond.code yX5_add cX5_add 2 (some .int), Cond.methodLink RX5 141 yX1_appendSign, Cond.methodLink RL 56 yX6_add, Cond.instanceMethod yX6_add, Cond.selects RX6 yX6_add yX6_add, Cond.code yX6_add cX6_add 2 (some .int), Cond.methodLink RL 57 yX5_cut, Cond.instanceMethod yX5_cut, Cond.selects RX5 yX5_cut yX5_cut]
def wsL_law_r20 : List Cond := [Cond.code yX5_cut cX5_cut 3 (some .int), Cond.methodLink RL 60 yX6_cut, Cond.instanceMethod yX6_cut, Cond.selects RX6 yX6_cut yX6_cut, Cond.code yX6_cut cX6_cut 2 (some .int), Cond.methodLink RL 61 yX5_send, Cond.instanceMethod yX5_send, Cond.selects RX5 yX5_send yX5_send, Cond.code yX5_send cX5_send 2 (some .int), Cond.methodLink RX5 145 yX1_stoppedBySending, Cond.instanceMethod yX1_stoppedBySending, Cond.selects RX1 yX1_stoppedBySending yX1_stoppedBySending, Cond.code yX1_stoppedBySending cX1_stoppedBySending 3 (some .boolean), Cond.methodLink RX1 63 Lib.Math.min.name, Cond.static Lib.Math.min.name, Cond.initialized "java/lang/Math", Cond.code Lib.Math.min.name Lib.Math.min.code 2 (some .int), Cond.methodLink RX1 59 yX1_stopsBy, Cond.methodLink RX1 69 yX1_takeInto, Cond.instanceMethod yX1_takeInto, Cond.selects RX1 yX1_takeInto yX1_takeInto, Cond.code yX1_takeInto cX1_takeInto 4 none, Cond.methodLink RX1 80 yX1_put, Cond.instanceMethod yX1_put]
def wsL_law_r21 : List Cond := [Cond.selects RX1 yX1_put yX1_put, Cond.code yX1_put cX1_put 5 (some .int), Cond.methodLink RX1 83 yX1_poorest, Cond.instanceMethod yX1_poorest, Cond.selects RX1 yX1_poorest yX1_poorest, Cond.code yX1_poorest cX1_poorest 4 (some .int), Cond.methodLink RX1 73 yX1_giveFrom, Cond.instanceMethod yX1_giveFrom, Cond.selects RX1 yX1_giveFrom yX1_giveFrom, Cond.code yX1_giveFrom cX1_giveFrom 4 none, Cond.methodLink RX1 86 yX1_draw, Cond.instanceMethod yX1_draw, Cond.selects RX1 yX1_draw yX1_draw, Cond.code yX1_draw cX1_draw 4 (some .int), Cond.methodLink RX1 89 yX1_richest, Cond.instanceMethod yX1_richest, Cond.selects RX1 yX1_richest yX1_richest, Cond.code yX1_richest cX1_richest 4 (some .int), Cond.methodLink RX1 76 yX1_doneBy, Cond.instanceMethod yX1_doneBy, Cond.selects RX1 yX1_doneBy yX1_doneBy, Cond.code yX1_doneBy cX1_doneBy 2 (some .int), Cond.methodLink RL 64 yX6_send, Cond.instanceMethod yX6_send]
def wsL_law_r22 : List Cond := [Cond.selects RX6 yX6_send yX6_send, Cond.code yX6_send cX6_send 2 (some .int), Cond.fieldLink RX6 163 "CellsInRowModel" "isStop" "Z", Cond.methodLink RX6 173 yX6_currentGoes, Cond.instanceMethod yX6_currentGoes, Cond.selects RX6 yX6_currentGoes yX6_currentGoes, Cond.code yX6_currentGoes cX6_currentGoes 3 none, Cond.methodLink RX6 142 yX6_lesser, Cond.static yX6_lesser, Cond.code yX6_lesser cX6_lesser 2 (some .int), Cond.methodLink RX6 166 yX6_takes, Cond.instanceMethod yX6_takes, Cond.selects RX6 yX6_takes yX6_takes, Cond.code yX6_takes cX6_takes 4 none, Cond.methodLink RX6 149 yX6_leftBy, Cond.instanceMethod yX6_leftBy, Cond.selects RX6 yX6_leftBy yX6_leftBy, Cond.code yX6_leftBy cX6_leftBy 4 (some .int), Cond.methodLink RX6 145 yX6_becomesOf, Cond.instanceMethod yX6_becomesOf, Cond.selects RX6 yX6_becomesOf yX6_becomesOf, Cond.code yX6_becomesOf cX6_becomesOf 4 none, Cond.methodLink RX6 152 yX6_extremeOne, Cond.instanceMethod yX6_extremeOne]
def wsL_law_r23 : List Cond := [Cond.selects RX6 yX6_extremeOne yX6_extremeOne, Cond.code yX6_extremeOne cX6_extremeOne 5 (some .int), Cond.methodLink RX6 170 yX6_gives, Cond.instanceMethod yX6_gives, Cond.selects RX6 yX6_gives yX6_gives, Cond.code yX6_gives cX6_gives 4 none, Cond.methodLink RX6 156 yX6_lackBy, Cond.instanceMethod yX6_lackBy, Cond.selects RX6 yX6_lackBy yX6_lackBy, Cond.code yX6_lackBy cX6_lackBy 4 (some .int), Cond.methodLink RX6 213 yX6_settles, Cond.instanceMethod yX6_settles, Cond.selects RX6 yX6_settles yX6_settles, Cond.code yX6_settles cX6_settles 2 none, Cond.methodLink RL 65 yX5_hours, Cond.instanceMethod yX5_hours, Cond.selects RX5 yX5_hours yX5_hours, Cond.code yX5_hours cX5_hours 2 (some .int), Cond.methodLink RX5 148 yX1_passHours, Cond.instanceMethod yX1_passHours, Cond.selects RX1 yX1_passHours yX1_passHours, Cond.code yX1_passHours cX1_passHours 4 (some .int), Cond.methodLink RX1 98 yX1_current, Cond.methodLink RX1 102 yX1_passHour]
def wsL_law_r24 : List Cond := [Cond.instanceMethod yX1_passHour, Cond.selects RX1 yX1_passHour yX1_passHour, Cond.code yX1_passHour cX1_passHour 4 (some .int), Cond.methodLink RX1 95 Lib.Math.max.name, Cond.static Lib.Math.max.name, Cond.code Lib.Math.max.name Lib.Math.max.code 2 (some .int), Cond.methodLink RX1 92 yX1_stoppedBySending, Cond.methodLink RL 68 yX6_hours, Cond.instanceMethod yX6_hours, Cond.selects RX6 yX6_hours yX6_hours, Cond.code yX6_hours cX6_hours 2 (some .int), Cond.constantLong RX6 216 (100), Cond.methodLink RX6 182 yX6_hoursGo, Cond.instanceMethod yX6_hoursGo, Cond.selects RX6 yX6_hoursGo yX6_hoursGo, Cond.code yX6_hoursGo cX6_hoursGo 3 none, Cond.methodLink RX6 179 yX6_hourGoes, Cond.instanceMethod yX6_hourGoes, Cond.selects RX6 yX6_hourGoes yX6_hourGoes, Cond.code yX6_hourGoes cX6_hourGoes 3 none, Cond.methodLink RL 69 yX5_runs, Cond.instanceMethod yX5_runs, Cond.selects RX5 yX5_runs yX5_runs, Cond.code yX5_runs cX5_runs 3 (some .int)]
def wsL_law_r25 : List Cond := [Cond.methodLink RX5 152 yX5_isFar, Cond.static yX5_isFar, Cond.code yX5_isFar cX5_isFar 1 (some .boolean), Cond.methodLink RX5 155 yX5_startTrial, Cond.instanceMethod yX5_startTrial, Cond.selects RX5 yX5_startTrial yX5_startTrial, Cond.code yX5_startTrial cX5_startTrial 1 none, Cond.fieldLink RX5 180 "CellsInRow$Row" "bridged" "I", Cond.methodLink RL 72 yX6_runs, Cond.instanceMethod yX6_runs, Cond.selects RX6 yX6_runs yX6_runs, Cond.code yX6_runs cX6_runs 3 (some .int), Cond.methodLink RX6 220 yX6_isFar, Cond.static yX6_isFar, Cond.code yX6_isFar cX6_isFar 1 (some .boolean), Cond.constantLong RX6 218 (200), Cond.methodLink RL 73 yX5_ahead, Cond.instanceMethod yX5_ahead, Cond.selects RX5 yX5_ahead yX5_ahead, Cond.code yX5_ahead cX5_ahead 3 (some .int), Cond.methodLink RL 76 yX6_ahead, Cond.instanceMethod yX6_ahead, Cond.selects RX6 yX6_ahead yX6_ahead, Cond.code yX6_ahead cX6_ahead 3 (some .int)]
def wsL_law_r26 : List Cond := [Cond.methodLink RL 77 yX5_when, Cond.instanceMethod yX5_when, Cond.selects RX5 yX5_when yX5_when, Cond.code yX5_when cX5_when 2 (some .int), Cond.methodLink RX5 158 yX1_passHour, Cond.methodLink RL 80 yX6_when, Cond.instanceMethod yX6_when, Cond.selects RX6 yX6_when yX6_when, Cond.code yX6_when cX6_when 2 (some .int), Cond.methodLink RL 81 yX5_kind, Cond.instanceMethod yX5_kind, Cond.selects RX5 yX5_kind yX5_kind, Cond.code yX5_kind cX5_kind 7 (some .int), Cond.methodLink RX5 161 yX5_isHalf, Cond.static yX5_isHalf, Cond.code yX5_isHalf cX5_isHalf 1 (some .boolean), Cond.methodLink RL 84 yX6_kind, Cond.instanceMethod yX6_kind, Cond.selects RX6 yX6_kind yX6_kind, Cond.code yX6_kind cX6_kind 4 (some .int), Cond.methodLink RX6 241 yX6_isPart, Cond.static yX6_isPart, Cond.code yX6_isPart cX6_isPart 1 (some .boolean), Cond.methodLink RX6 244 yX6_bestOf]
def wsL_law_r27 : List Cond := [Cond.instanceMethod yX6_bestOf, Cond.selects RX6 yX6_bestOf yX6_bestOf, Cond.code yX6_bestOf cX6_bestOf 7 (some .int), Cond.methodLink RX6 229 yX6_startsJudging, Cond.instanceMethod yX6_startsJudging, Cond.selects RX6 yX6_startsJudging yX6_startsJudging, Cond.code yX6_startsJudging cX6_startsJudging 2 none, Cond.fieldLink RX6 223 "CellsInRowModel" "bestCode" "I", Cond.fieldLink RX6 226 "CellsInRowModel" "bestMuch" "I", Cond.methodLink RX6 232 yX6_doneIn, Cond.instanceMethod yX6_doneIn, Cond.selects RX6 yX6_doneIn yX6_doneIn, Cond.code yX6_doneIn cX6_doneIn 2 (some .int), Cond.methodLink RX6 235 yX6_judges, Cond.instanceMethod yX6_judges, Cond.selects RX6 yX6_judges yX6_judges, Cond.code yX6_judges cX6_judges 3 none, Cond.methodLink RX6 238 yX6_judged, Cond.instanceMethod yX6_judged, Cond.selects RX6 yX6_judged yX6_judged, Cond.code yX6_judged cX6_judged 2 (some .int), Cond.methodLink RL 85 yX5_begin, Cond.instanceMethod yX5_begin, Cond.selects RX5 yX5_begin yX5_begin]
def wsL_law_r28 : List Cond := [Cond.code yX5_begin cX5_begin 7 (some .int), Cond.methodLink RL 88 yX6_begin, Cond.instanceMethod yX6_begin, Cond.selects RX6 yX6_begin yX6_begin, Cond.code yX6_begin cX6_begin 4 (some .int), Cond.methodLink RL 89 yX5_need, Cond.instanceMethod yX5_need, Cond.selects RX5 yX5_need yX5_need, Cond.code yX5_need cX5_need 4 (some .int), Cond.methodLink RX5 164 Lib.Math.max.name, Cond.methodLink RX5 170 yX5_trialNeverStops, Cond.instanceMethod yX5_trialNeverStops, Cond.selects RX5 yX5_trialNeverStops yX5_trialNeverStops, Cond.code yX5_trialNeverStops cX5_trialNeverStops 3 (some .boolean), Cond.methodLink RL 92 yX6_need, Cond.instanceMethod yX6_need, Cond.selects RX6 yX6_need yX6_need, Cond.code yX6_need cX6_need 4 (some .int), Cond.methodLink RL 93 yX5_swap, Cond.instanceMethod yX5_swap, Cond.selects RX5 yX5_swap yX5_swap, Cond.code yX5_swap cX5_swap 8 (some .int), Cond.methodLink RX5 173 yX5_doneAsItIs, Cond.instanceMethod yX5_doneAsItIs]
def wsL_law_r29 : List Cond := [Cond.selects RX5 yX5_doneAsItIs yX5_doneAsItIs, Cond.code yX5_doneAsItIs cX5_doneAsItIs 2 (some .int), Cond.methodLink RX5 176 yX5_doneWithSwapped, Cond.instanceMethod yX5_doneWithSwapped, Cond.selects RX5 yX5_doneWithSwapped yX5_doneWithSwapped, Cond.code yX5_doneWithSwapped cX5_doneWithSwapped 4 (some .int), Cond.methodLink RL 96 yX6_swap, Cond.instanceMethod yX6_swap, Cond.selects RX6 yX6_swap yX6_swap, Cond.code yX6_swap cX6_swap 5 (some .int), Cond.methodLink RL 97 yX5_bridge, Cond.instanceMethod yX5_bridge, Cond.selects RX5 yX5_bridge yX5_bridge, Cond.code yX5_bridge cX5_bridge 6 (some .int), Cond.methodLink RL 100 yX6_bridge, Cond.instanceMethod yX6_bridge, Cond.selects RX6 yX6_bridge yX6_bridge, Cond.code yX6_bridge cX6_bridge 4 (some .int), Cond.methodLink RL 101 yX5_luck, Cond.instanceMethod yX5_luck, Cond.selects RX5 yX5_luck yX5_luck, Cond.code yX5_luck cX5_luck 9 (some .long), Cond.constantLong RX5 186 (-1), Cond.methodLink RX5 183 yX5_isOdds]
def wsL_law_r30 : List Cond := [Cond.static yX5_isOdds, Cond.code yX5_isOdds cX5_isOdds 2 (some .boolean), Cond.methodLink RX5 188 yX5_weightOf, Cond.static yX5_weightOf, Cond.code yX5_weightOf cX5_weightOf 6 (some .long), Cond.methodLink RX5 192 yX5_runTrialFailing, Cond.instanceMethod yX5_runTrialFailing, Cond.selects RX5 yX5_runTrialFailing yX5_runTrialFailing, Cond.code yX5_runTrialFailing cX5_runTrialFailing 4 none, Cond.methodLink RX5 196 yX5_tenToThe, Cond.static yX5_tenToThe, Cond.code yX5_tenToThe cX5_tenToThe 4 (some .long), Cond.constantLong RX5 270 (10), Cond.methodLink RX5 200 yX5_inLowestTerms, Cond.static yX5_inLowestTerms, Cond.code yX5_inLowestTerms cX5_inLowestTerms 9 (some .long), Cond.methodLink RX5 272 yX5_greatestCommonDivisor, Cond.static yX5_greatestCommonDivisor, Cond.code yX5_greatestCommonDivisor cX5_greatestCommonDivisor 11 (some .long), Cond.methodLink RL 105 yX6_luck, Cond.instanceMethod yX6_luck, Cond.selects RX6 yX6_luck yX6_luck, Cond.code yX6_luck cX6_luck 4 (some .long), Cond.constantLong RX6 262 (10)]
def wsL_law_r31 : List Cond := [Cond.constantLong RX6 264 (8), Cond.constantLong RX6 266 (-1), Cond.fieldLink RX6 252 "CellsInRowModel" "smoothSum" "J", Cond.fieldLink RX6 259 "CellsInRowModel" "allWays" "J", Cond.methodLink RX6 268 yX6_findOdds, Cond.instanceMethod yX6_findOdds, Cond.selects RX6 yX6_findOdds yX6_findOdds, Cond.code yX6_findOdds cX6_findOdds 8 none, Cond.fieldLink RX6 256 "CellsInRowModel" "doneSum" "J", Cond.methodLink RX6 271 yX6_lowest, Cond.static yX6_lowest, Cond.code yX6_lowest cX6_lowest 7 (some .long), Cond.methodLink RX6 248 yX6_common, Cond.static yX6_common, Cond.code yX6_common cX6_common 10 (some .long), Cond.methodLink RL 106 yX5_mean, Cond.instanceMethod yX5_mean, Cond.selects RX5 yX5_mean yX5_mean, Cond.code yX5_mean cX5_mean 9 (some .long), Cond.methodLink RL 109 yX6_mean, Cond.instanceMethod yX6_mean, Cond.selects RX6 yX6_mean yX6_mean, Cond.code yX6_mean cX6_mean 4 (some .long), Cond.methodLink RL 110 yX5_see]
def wsL_law_r32 : List Cond := [Cond.instanceMethod yX5_see, Cond.selects RX5 yX5_see yX5_see, Cond.code yX5_see cX5_see 4 (some .int), Cond.methodLink RX5 204 yX2_append, Cond.instanceMethod yX2_append, Cond.selects RX2 yX2_append yX2_append, Cond.code yX2_append cX2_append 4 none, Cond.fieldLink RX2 21 "CellsInRow$Seen" "size" "I", Cond.methodLink RL 113 yX6_see, Cond.instanceMethod yX6_see, Cond.selects RX6 yX6_see yX6_see, Cond.code yX6_see cX6_see 5 (some .int), Cond.constantLong RX6 275 (40), Cond.constantLong RX6 277 (99), Cond.methodLink RL 114 yX5_forget, Cond.instanceMethod yX5_forget, Cond.selects RX5 yX5_forget yX5_forget, Cond.code yX5_forget cX5_forget 3 (some .int), Cond.methodLink RL 117 yX6_forget, Cond.instanceMethod yX6_forget, Cond.selects RX6 yX6_forget yX6_forget, Cond.code yX6_forget cX6_forget 2 (some .int), Cond.methodLink RL 118 yX5_kinds, Cond.instanceMethod yX5_kinds]
def wsL_law_r33 : List Cond := [Cond.selects RX5 yX5_kinds yX5_kinds, Cond.code yX5_kinds cX5_kinds 4 (some .int), Cond.methodLink RX5 208 yX5_trialIsAsSeen, Cond.instanceMethod yX5_trialIsAsSeen, Cond.selects RX5 yX5_trialIsAsSeen yX5_trialIsAsSeen, Cond.code yX5_trialIsAsSeen cX5_trialIsAsSeen 3 (some .boolean), Cond.methodLink RX5 263 yX2_lastHour, Cond.instanceMethod yX2_lastHour, Cond.selects RX2 yX2_lastHour yX2_lastHour, Cond.code yX2_lastHour cX2_lastHour 3 (some .int), Cond.methodLink RX2 31 Lib.Math.max.name, Cond.methodLink RX5 266 yX2_agrees, Cond.instanceMethod yX2_agrees, Cond.selects RX2 yX2_agrees yX2_agrees, Cond.code yX2_agrees cX2_agrees 4 (some .boolean), Cond.fieldLink RX2 37 "CellsInRow$Row" "charge" "[I", Cond.methodLink RL 121 yX6_kinds, Cond.instanceMethod yX6_kinds, Cond.selects RX6 yX6_kinds yX6_kinds, Cond.code yX6_kinds cX6_kinds 2 (some .int), Cond.methodLink RX6 282 yX6_which, Cond.instanceMethod yX6_which, Cond.selects RX6 yX6_which yX6_which, Cond.code yX6_which cX6_which 6 (some .int)]
def wsL_law_r34 : List Cond := [Cond.methodLink RX6 279 yX6_isSoWith, Cond.instanceMethod yX6_isSoWith, Cond.selects RX6 yX6_isSoWith yX6_isSoWith, Cond.code yX6_isSoWith cX6_isSoWith 6 (some .boolean), Cond.methodLink RL 122 yX5_leaks, Cond.instanceMethod yX5_leaks, Cond.selects RX5 yX5_leaks yX5_leaks, Cond.code yX5_leaks cX5_leaks 2 (some .int), Cond.methodLink RX5 212 yX5_leaksAsSeen, Cond.instanceMethod yX5_leaksAsSeen, Cond.selects RX5 yX5_leaksAsSeen yX5_leaksAsSeen, Cond.code yX5_leaksAsSeen cX5_leaksAsSeen 4 (some .int), Cond.methodLink RL 125 yX6_leaks, Cond.instanceMethod yX6_leaks, Cond.selects RX6 yX6_leaks yX6_leaks, Cond.code yX6_leaks cX6_leaks 2 (some .int), Cond.methodLink RL 126 yX5_ask, Cond.instanceMethod yX5_ask, Cond.selects RX5 yX5_ask yX5_ask, Cond.code yX5_ask cX5_ask 8 (some .int), Cond.methodLink RX5 215 yX5_layCourses, Cond.instanceMethod yX5_layCourses, Cond.selects RX5 yX5_layCourses yX5_layCourses, Cond.code yX5_layCourses cX5_layCourses 5 none]
def wsL_law_r35 : List Cond := [Cond.methodLink RX5 218 yJ6_bitCount_0f7a4, Cond.static yJ6_bitCount_0f7a4, Cond.initialized RJ6, Cond.code yJ6_bitCount_0f7a4 cJ6_bitCount_0f7a4 1 (some .int), Cond.constant RJ6 265 (1431655765), Cond.constant RJ6 266 (858993459), Cond.constant RJ6 267 (252645135), Cond.methodLink RX5 223 yX5_mostAlike, Cond.instanceMethod yX5_mostAlike, Cond.selects RX5 yX5_mostAlike yX5_mostAlike, Cond.code yX5_mostAlike cX5_mostAlike 8 (some .int), Cond.methodLink RL 129 yX6_ask, Cond.instanceMethod yX6_ask, Cond.selects RX6 yX6_ask yX6_ask, Cond.code yX6_ask cX6_ask 11 (some .int), Cond.methodLink RL 130 yX5_drift, Cond.instanceMethod yX5_drift, Cond.selects RX5 yX5_drift yX5_drift, Cond.code yX5_drift cX5_drift 7 (some .int), Cond.constant RX5 226 (1103515245), Cond.methodLink RL 133 yX6_drift, Cond.instanceMethod yX6_drift, Cond.selects RX6 yX6_drift yX6_drift, Cond.code yX6_drift cX6_drift 7 (some .int)]
def wsL_law_r36 : List Cond := [Cond.constant RX6 286 (1103515245), Cond.methodLink RL 134 yX5_keep, Cond.instanceMethod yX5_keep, Cond.selects RX5 yX5_keep yX5_keep, Cond.code yX5_keep cX5_keep 4 (some .int), Cond.fieldLink RX5 227 "CellsInRow$Image" "row" "LCellsInRow$Row;", Cond.fieldLink RX5 230 "CellsInRow$Image" "seen" "LCellsInRow$Seen;", Cond.methodLink RX5 231 yX2_becomes, Cond.instanceMethod yX2_becomes, Cond.selects RX2 yX2_becomes yX2_becomes, Cond.code yX2_becomes cX2_becomes 2 none, Cond.methodLink RX2 25 arraycopyName, Cond.methodLink RL 137 yX6_keep, Cond.instanceMethod yX6_keep, Cond.selects RX6 yX6_keep yX6_keep, Cond.code yX6_keep cX6_keep 3 (some .int), Cond.methodLink RX6 287 yX6_copies, Cond.instanceMethod yX6_copies, Cond.selects RX6 yX6_copies yX6_copies, Cond.code yX6_copies cX6_copies 4 none, Cond.methodLink RL 138 yX5_back, Cond.instanceMethod yX5_back, Cond.selects RX5 yX5_back yX5_back, Cond.code yX5_back cX5_back 3 (some .int)]
def wsL_law_r37 : List Cond := [Cond.methodLink RL 141 yX6_back, Cond.instanceMethod yX6_back, Cond.selects RX6 yX6_back yX6_back, Cond.code yX6_back cX6_back 2 (some .int), Cond.methodLink RL 142 yX5_sheet, Cond.instanceMethod yX5_sheet, Cond.selects RX5 yX5_sheet yX5_sheet, Cond.code yX5_sheet cX5_sheet 4 (some .int), Cond.methodLink RX5 234 yX5_isSheet, Cond.static yX5_isSheet, Cond.code yX5_isSheet cX5_isSheet 1 (some .boolean), Cond.methodLink RX5 237 yX5_isLane, Cond.static yX5_isLane, Cond.code yX5_isLane cX5_isLane 1 (some .boolean), Cond.methodLink RX5 240 yX3_becomesNew, Cond.instanceMethod yX3_becomesNew, Cond.selects RX3 yX3_becomesNew yX3_becomesNew, Cond.code yX3_becomesNew cX3_becomesNew 4 none, Cond.fieldLink RX3 15 "CellsInRow$Sheet" "there" "Z", Cond.fieldLink RX3 19 "CellsInRow$Sheet" "lane" "I", Cond.fieldLink RX3 23 "CellsInRow$Sheet" "length" "I", Cond.methodLink RL 145 yX6_sheet, Cond.instanceMethod yX6_sheet, Cond.selects RX6 yX6_sheet yX6_sheet]
def wsL_law_r38 : List Cond := [Cond.code yX6_sheet cX6_sheet 5 (some .int), Cond.methodLink RX6 292 yX6_isSheet, Cond.static yX6_isSheet, Cond.code yX6_isSheet cX6_isSheet 2 (some .boolean), Cond.constantLong RX6 290 (2), Cond.methodLink RL 146 yX5_lay, Cond.instanceMethod yX5_lay, Cond.selects RX5 yX5_lay yX5_lay, Cond.code yX5_lay cX5_lay 5 (some .int), Cond.fieldLink RX5 243 "CellsInRow$Sheet" "there" "Z", Cond.fieldLink RX5 244 "CellsInRow$Sheet" "length" "I", Cond.fieldLink RX5 245 "CellsInRow$Sheet" "places" "[I", Cond.methodLink RX5 248 yX3_lowestBits, Cond.instanceMethod yX3_lowestBits, Cond.selects RX3 yX3_lowestBits yX3_lowestBits, Cond.code yX3_lowestBits cX3_lowestBits 2 (some .int), Cond.methodLink RL 149 yX6_lay, Cond.instanceMethod yX6_lay, Cond.selects RX6 yX6_lay yX6_lay, Cond.code yX6_lay cX6_lay 4 (some .int), Cond.methodLink RL 150 yX5_read, Cond.instanceMethod yX5_read, Cond.selects RX5 yX5_read yX5_read, Cond.code yX5_read cX5_read 9 (some .int)]
def wsL_law_r39 : List Cond := [Cond.methodLink RX5 251 yX3_wholePairs, Cond.instanceMethod yX3_wholePairs, Cond.selects RX3 yX3_wholePairs yX3_wholePairs, Cond.code yX3_wholePairs cX3_wholePairs 4 (some .int), Cond.methodLink RX3 26 Lib.Math.min.name, Cond.methodLink RX5 254 yX3_tornBy, Cond.instanceMethod yX3_tornBy, Cond.selects RX3 yX3_tornBy yX3_tornBy, Cond.code yX3_tornBy cX3_tornBy 4 (some .int), Cond.methodLink RL 154 yX6_read, Cond.instanceMethod yX6_read, Cond.selects RX6 yX6_read yX6_read, Cond.code yX6_read cX6_read 11 (some .int), Cond.constantLong RX6 295 (20), Cond.fieldLink RX6 300 "CellsInRowModel" "torn" "I", Cond.methodLink RX6 297 yX6_set, Cond.methodLink RL 155 yX5_torn, Cond.instanceMethod yX5_torn, Cond.selects RX5 yX5_torn yX5_torn, Cond.code yX5_torn cX5_torn 1 (some .int), Cond.methodLink RL 158 yX6_torn, Cond.instanceMethod yX6_torn, Cond.selects RX6 yX6_torn yX6_torn, Cond.code yX6_torn cX6_torn 1 (some .int)]
def wsL_law_r40 : List Cond := [Cond.methodLink RL 159 yX5_count, Cond.instanceMethod yX5_count, Cond.selects RX5 yX5_count yX5_count, Cond.code yX5_count cX5_count 2 (some .int), Cond.methodLink RX5 257 yX1_roomsSummed, Cond.instanceMethod yX1_roomsSummed, Cond.selects RX1 yX1_roomsSummed yX1_roomsSummed, Cond.code yX1_roomsSummed cX1_roomsSummed 3 (some .int), Cond.methodLink RX5 260 yX1_signsSummed, Cond.instanceMethod yX1_signsSummed, Cond.selects RX1 yX1_signsSummed yX1_signsSummed, Cond.code yX1_signsSummed cX1_signsSummed 3 (some .int), Cond.methodLink RL 162 yX6_count, Cond.instanceMethod yX6_count, Cond.selects RX6 yX6_count yX6_count, Cond.code yX6_count cX6_count 4 (some .int)]
def wsL_law : List Cond := (wsL_law_r1 ++ (wsL_law_r2 ++ (wsL_law_r3 ++ (wsL_law_r4 ++ (wsL_law_r5 ++ (wsL_law_r6 ++ (wsL_law_r7 ++ (wsL_law_r8 ++ (wsL_law_r9 ++ (wsL_law_r10 ++ (wsL_law_r11 ++ (wsL_law_r12 ++ (wsL_law_r13 ++ (wsL_law_r14 ++ (wsL_law_r15 ++ (wsL_law_r16 ++ (wsL_law_r17 ++ (wsL_law_r18 ++ (wsL_law_r19 ++ (wsL_law_r20 ++ (wsL_law_r21 ++ (wsL_law_r22 ++ (wsL_law_r23 ++ (wsL_law_r24 ++ (wsL_law_r25 ++ (wsL_law_r26 ++ (wsL_law_r27 ++ (wsL_law_r28 ++ (wsL_law_r29 ++ (wsL_law_r30 ++ (wsL_law_r31 ++ (wsL_law_r32 ++ (wsL_law_r33 ++ (wsL_law_r34 ++ (wsL_law_r35 ++ (wsL_law_r36 ++ (wsL_law_r37 ++ (wsL_law_r38 ++ (wsL_law_r39 ++ wsL_law_r40))))))))))))))))))))))))))))))))))))))) ++ wsX50 ++ wsX60 ++ wsX40 ++ wsX10 ++ wsX20 ++ wsX00 ++ wsX30 ++ ([] : List Cond)
set_option maxRecDepth 20000 in
theorem ggL_law_X5_init : GoodIn wsL_law wsX5_init := goodIn_r _ [8, 9, 10, 11, 12, 13, 14, 15, 16, 17, 18, 19, 20, 21, 22, 23, 24, 25, 26, 27, 28, 29, 30, 31, 32, 33, 34, 35, 36, 37, 38, 39, 40, 41, 42, 43, 44, 45, 46, 47, 48, 49, 50, 51, 52, 53, 54, 55, 56, 57, 58, 59, 60, 61, 62, 63, 64, 65, 66, 67, 991, 992, 993, 994, 995, 996, 997, 998, 952, 953, 954, 955, 956, 957, 958, 959, 960, 999, 1000, 1001, 1002, 1003, 1004, 1005, 1006, 1007, 1008, 1009, 1010, 1011, 1012, 1013, 1014, 1015, 1016, 1017, 1018, 1019, 1020, 1021] (by decide +kernel) (by decide +kernel)
set_option maxRecDepth 20000 in
theorem gL_law_X5_init : GoodIn wsL_law (wsX5_init) := ggL_law_X5_init
set_option maxRecDepth 20000 in
theorem ggL_law_X6_init : GoodIn wsL_law wsX6_init := goodIn_r _ [70, 71, 10, 11, 31, 72, 73, 74, 75, 76, 77, 78, 79, 80, 81, 82, 83, 84, 85, 86, 5, 87, 88, 89, 90, 91, 92, 961, 962, 963, 964, 965, 966, 967, 968, 969, 970, 971, 972, 973, 974, 975, 976, 977, 978, 979, 980, 981, 982, 983, 984, 985, 986, 987, 988, 989, 990] (by decide +kernel) (by decide +kernel)
set_option maxRecDepth 20000 in
theorem gL_law_X6_init : GoodIn wsL_law (wsX6_init) := ggL_law_X6_init
set_option maxRecDepth 20000 in
theorem ggL_law_X5_feed : GoodIn wsL_law wsX5_feed := goodIn_r _ [96, 15, 97, 98, 952, 953, 954, 955, 956, 957, 958, 959, 960, 991, 992, 993, 994, 995, 996, 997, 998] (by decide +kernel) (by decide +kernel)
set_option maxRecDepth 20000 in
theorem gL_law_X5_feed : GoodIn wsL_law (wsV RL 13 RX5 yX5_feed wsX5_feed) := goodIn_app (goodIn_of _ (by decide +kernel)) ggL_law_X5_feed
set_option maxRecDepth 20000 in
theorem ggL_law_X6_feed : GoodIn wsL_law wsX6_feed := goodIn_r _ [102, 103, 104, 77, 105, 106, 5, 107, 961, 962, 963, 964, 965, 966, 967, 968, 969, 970, 971, 972, 973, 974, 975, 976, 977, 978, 979, 980, 981, 982, 983, 984, 985, 986, 987, 988, 989, 990] (by decide +kernel) (by decide +kernel)
set_option maxRecDepth 20000 in
theorem gL_law_X6_feed : GoodIn wsL_law (wsV RL 17 RX6 yX6_feed wsX6_feed) := goodIn_app (goodIn_of _ (by decide +kernel)) ggL_law_X6_feed
set_option maxRecDepth 20000 in
theorem ggL_law_X5_end : GoodIn wsL_law wsX5_end := goodIn_r _ [111, 15, 97, 952, 953, 954, 955, 956, 957, 958, 959, 960, 991, 992, 993, 994, 995, 996, 997, 998] (by decide +kernel) (by decide +kernel)
set_option maxRecDepth 20000 in
theorem gL_law_X5_end : GoodIn wsL_law (wsV RL 18 RX5 yX5_end wsX5_end) := goodIn_app (goodIn_of _ (by decide +kernel)) ggL_law_X5_end
set_option maxRecDepth 20000 in
theorem ggL_law_X6_end : GoodIn wsL_law wsX6_end := goodIn_r _ [115, 104, 105, 106, 5, 107, 961, 962, 963, 964, 965, 966, 967, 968, 969, 970, 971, 972, 973, 974, 975, 976, 977, 978, 979, 980, 981, 982, 983, 984, 985, 986, 987, 988, 989, 990] (by decide +kernel) (by decide +kernel)
set_option maxRecDepth 20000 in
theorem gL_law_X6_end : GoodIn wsL_law (wsV RL 21 RX6 yX6_end wsX6_end) := goodIn_app (goodIn_of _ (by decide +kernel)) ggL_law_X6_end
set_option maxRecDepth 20000 in
theorem ggL_law_X5_text : GoodIn wsL_law wsX5_text := goodIn_r _ [119, 15, 20, 97, 19, 25, 120, 27, 121, 122, 123, 124, 14, 125, 126, 127, 128, 129, 130, 131, 132, 133, 18, 134, 135, 136, 137, 138, 139, 140, 141, 142, 143, 144, 145, 41, 146, 147, 148, 149, 150, 151, 152, 153, 154, 155, 156, 157, 158, 159, 160, 161, 162, 163, 164, 165, 166, 167, 168, 169, 170, 171, 172, 173, 174, 175, 176, 177, 178, 179, 180, 181, 182, 183, 184, 185, 186, 187, 188, 189, 190, 191, 192, 193, 194, 195, 196, 197, 198, 199, 200, 201, 202, 203, 204, 205, 206, 207, 208, 209, 210, 211, 212, 213, 214, 215, 216, 217, 218, 219, 220, 221, 222, 223, 224, 225, 226, 227, 50, 228, 229, 230, 231, 232, 233, 234, 235, 236, 237, 238, 239, 240, 241, 242, 243, 244, 46, 47, 48, 49, 245, 246, 247, 248, 249, 250, 251, 252, 952, 953, 954, 955, 956, 957, 958, 959, 960, 991, 992, 993, 994, 995, 996, 997, 998, 1011, 1012, 1013, 1014, 1015, 1016, 1017, 999, 1000, 1001, 1002, 1003, 1004, 1005, 1006, 1007, 1008, 1009, 1010] (by decide +kernel) (by decide +kernel)
set_option maxRecDepth 20000 in
theorem gL_law_X5_text : GoodIn wsL_law (wsV RL 22 RX5 yX5_text wsX5_text) := goodIn_app (goodIn_of _ (by decide +kernel)) ggL_law_X5_text
set_option maxRecDepth 20000 in
theorem ggL_law_X6_text : GoodIn wsL_law wsX6_text := goodIn_r _ [256, 257, 258, 259, 104, 260, 84, 85, 86, 5, 87, 76, 88, 261, 262, 263, 264, 265, 266, 267, 268, 269, 270, 271, 272, 273, 274, 77, 105, 106, 107, 275, 276, 277, 278, 279, 280, 281, 282, 283, 284, 285, 286, 287, 288, 289, 290, 291, 292, 293, 294, 295, 296, 297, 298, 299, 300, 301, 302, 89, 90, 91, 92, 72, 75, 961, 962, 963, 964, 965, 966, 967, 968, 969, 970, 971, 972, 973, 974, 975, 976, 977, 978, 979, 980, 981, 982, 983, 984, 985, 986, 987, 988, 989, 990] (by decide +kernel) (by decide +kernel)
set_option maxRecDepth 20000 in
theorem gL_law_X6_text : GoodIn wsL_law (wsV RL 26 RX6 yX6_text wsX6_text) := goodIn_app (goodIn_of _ (by decide +kernel)) ggL_law_X6_text
set_option maxRecDepth 20000 in
theorem ggL_law_X5_fault : GoodIn wsL_law wsX5_fault := goodIn_r _ [306, 15, 307, 952, 953, 954, 955, 956, 957, 958, 959, 960, 991, 992, 993, 994, 995, 996, 997, 998] (by decide +kernel) (by decide +kernel)
set_option maxRecDepth 20000 in
theorem gL_law_X5_fault : GoodIn wsL_law (wsV RL 27 RX5 yX5_fault wsX5_fault) := goodIn_app (goodIn_of _ (by decide +kernel)) ggL_law_X5_fault
set_option maxRecDepth 20000 in
theorem ggL_law_X6_fault : GoodIn wsL_law wsX6_fault := goodIn_r _ [311, 257, 961, 962, 963, 964, 965, 966, 967, 968, 969, 970, 971, 972, 973, 974, 975, 976, 977, 978, 979, 980, 981, 982, 983, 984, 985, 986, 987, 988, 989, 990] (by decide +kernel) (by decide +kernel)
set_option maxRecDepth 20000 in
theorem gL_law_X6_fault : GoodIn wsL_law (wsV RL 30 RX6 yX6_fault wsX6_fault) := goodIn_app (goodIn_of _ (by decide +kernel)) ggL_law_X6_fault
set_option maxRecDepth 20000 in
theorem ggL_law_X5_rule : GoodIn wsL_law wsX5_rule := goodIn_r _ [315, 19, 316, 317, 318, 319, 320, 321, 322, 323, 324, 18, 325, 135, 48, 326, 327, 328, 329, 136, 50, 137, 330, 331, 332, 333, 45, 334, 335, 336, 337, 46, 47, 952, 953, 954, 955, 956, 957, 958, 959, 960, 999, 1000, 1001, 1002, 1003, 1004, 1005, 1006, 1007, 1008, 1009, 1010] (by decide +kernel) (by decide +kernel)
set_option maxRecDepth 20000 in
theorem gL_law_X5_rule : GoodIn wsL_law (wsV RL 31 RX5 yX5_rule wsX5_rule) := goodIn_app (goodIn_of _ (by decide +kernel)) ggL_law_X5_rule
set_option maxRecDepth 20000 in
theorem ggL_law_X6_rule : GoodIn wsL_law wsX6_rule := goodIn_r _ [341, 72, 342, 343, 344, 5, 345, 73, 346, 347, 348, 349, 350, 351, 352, 353, 354, 355, 356, 357, 358, 359, 360, 361, 362, 363, 364, 365, 366, 367, 368, 369, 370, 371, 372, 961, 962, 963, 964, 965, 966, 967, 968, 969, 970, 971, 972, 973, 974, 975, 976, 977, 978, 979, 980, 981, 982, 983, 984, 985, 986, 987, 988, 989, 990] (by decide +kernel) (by decide +kernel)
set_option maxRecDepth 20000 in
theorem gL_law_X6_rule : GoodIn wsL_law (wsV RL 34 RX6 yX6_rule wsX6_rule) := goodIn_app (goodIn_of _ (by decide +kernel)) ggL_law_X6_rule
set_option maxRecDepth 20000 in
theorem ggL_law_X5_unit : GoodIn wsL_law wsX5_unit := goodIn_r _ [376, 19, 377, 378, 379, 380, 381, 382, 383, 2, 384, 316, 952, 953, 954, 955, 956, 957, 958, 959, 960, 999, 1000, 1001, 1002, 1003, 1004, 1005, 1006, 1007, 1008, 1009, 1010] (by decide +kernel) (by decide +kernel)
set_option maxRecDepth 20000 in
theorem gL_law_X5_unit : GoodIn wsL_law (wsV RL 35 RX5 yX5_unit wsX5_unit) := goodIn_app (goodIn_of _ (by decide +kernel)) ggL_law_X5_unit
set_option maxRecDepth 20000 in
theorem ggL_law_X6_unit : GoodIn wsL_law wsX6_unit := goodIn_r _ [388, 389, 72, 390, 391, 392, 5, 393, 105, 106, 107, 961, 962, 963, 964, 965, 966, 967, 968, 969, 970, 971, 972, 973, 974, 975, 976, 977, 978, 979, 980, 981, 982, 983, 984, 985, 986, 987, 988, 989, 990] (by decide +kernel) (by decide +kernel)
set_option maxRecDepth 20000 in
theorem gL_law_X6_unit : GoodIn wsL_law (wsV RL 39 RX6 yX6_unit wsX6_unit) := goodIn_app (goodIn_of _ (by decide +kernel)) ggL_law_X6_unit
set_option maxRecDepth 20000 in
theorem ggL_law_X5_sign : GoodIn wsL_law wsX5_sign := goodIn_r _ [397, 19, 398, 399, 400, 401, 2, 402, 317, 952, 953, 954, 955, 956, 957, 958, 959, 960, 999, 1000, 1001, 1002, 1003, 1004, 1005, 1006, 1007, 1008, 1009, 1010] (by decide +kernel) (by decide +kernel)
set_option maxRecDepth 20000 in
theorem gL_law_X5_sign : GoodIn wsL_law (wsV RL 40 RX5 yX5_sign wsX5_sign) := goodIn_app (goodIn_of _ (by decide +kernel)) ggL_law_X5_sign
set_option maxRecDepth 20000 in
theorem ggL_law_X6_sign : GoodIn wsL_law wsX6_sign := goodIn_r _ [406, 72, 407, 408, 409, 5, 410, 105, 106, 107, 961, 962, 963, 964, 965, 966, 967, 968, 969, 970, 971, 972, 973, 974, 975, 976, 977, 978, 979, 980, 981, 982, 983, 984, 985, 986, 987, 988, 989, 990] (by decide +kernel) (by decide +kernel)
set_option maxRecDepth 20000 in
theorem gL_law_X6_sign : GoodIn wsL_law (wsV RL 43 RX6 yX6_sign wsX6_sign) := goodIn_app (goodIn_of _ (by decide +kernel)) ggL_law_X6_sign
set_option maxRecDepth 20000 in
theorem ggL_law_X5_alter : GoodIn wsL_law wsX5_alter := goodIn_r _ [414, 19, 379, 378, 377, 380, 381, 382, 383, 2, 384, 316, 415, 416, 417, 952, 953, 954, 955, 956, 957, 958, 959, 960, 999, 1000, 1001, 1002, 1003, 1004, 1005, 1006, 1007, 1008, 1009, 1010] (by decide +kernel) (by decide +kernel)
set_option maxRecDepth 20000 in
theorem gL_law_X5_alter : GoodIn wsL_law (wsV RL 44 RX5 yX5_alter wsX5_alter) := goodIn_app (goodIn_of _ (by decide +kernel)) ggL_law_X5_alter
set_option maxRecDepth 20000 in
theorem ggL_law_X6_alter : GoodIn wsL_law wsX6_alter := goodIn_r _ [421, 389, 72, 390, 391, 392, 5, 393, 105, 106, 107, 422, 423, 424, 425, 426, 427, 428, 961, 962, 963, 964, 965, 966, 967, 968, 969, 970, 971, 972, 973, 974, 975, 976, 977, 978, 979, 980, 981, 982, 983, 984, 985, 986, 987, 988, 989, 990] (by decide +kernel) (by decide +kernel)
set_option maxRecDepth 20000 in
theorem gL_law_X6_alter : GoodIn wsL_law (wsV RL 48 RX6 yX6_alter wsX6_alter) := goodIn_app (goodIn_of _ (by decide +kernel)) ggL_law_X6_alter
set_option maxRecDepth 20000 in
theorem ggL_law_X5_set : GoodIn wsL_law wsX5_set := goodIn_r _ [432, 19, 398, 399, 400, 401, 2, 402, 317, 433, 434, 435, 952, 953, 954, 955, 956, 957, 958, 959, 960, 999, 1000, 1001, 1002, 1003, 1004, 1005, 1006, 1007, 1008, 1009, 1010] (by decide +kernel) (by decide +kernel)
set_option maxRecDepth 20000 in
theorem gL_law_X5_set : GoodIn wsL_law (wsV RL 49 RX5 yX5_set wsX5_set) := goodIn_app (goodIn_of _ (by decide +kernel)) ggL_law_X5_set
set_option maxRecDepth 20000 in
theorem ggL_law_X6_set : GoodIn wsL_law wsX6_set := goodIn_r _ [439, 407, 408, 409, 5, 410, 72, 105, 106, 107, 440, 441, 442, 443, 425, 426, 427, 428, 961, 962, 963, 964, 965, 966, 967, 968, 969, 970, 971, 972, 973, 974, 975, 976, 977, 978, 979, 980, 981, 982, 983, 984, 985, 986, 987, 988, 989, 990] (by decide +kernel) (by decide +kernel)
set_option maxRecDepth 20000 in
theorem gL_law_X6_set : GoodIn wsL_law (wsV RL 52 RX6 yX6_set wsX6_set) := goodIn_app (goodIn_of _ (by decide +kernel)) ggL_law_X6_set
set_option maxRecDepth 20000 in
theorem ggL_law_X5_add : GoodIn wsL_law wsX5_add := goodIn_r _ [447, 19, 317, 433, 434, 2, 435, 448, 225, 226, 18, 227, 136, 50, 952, 953, 954, 955, 956, 957, 958, 959, 960, 999, 1000, 1001, 1002, 1003, 1004, 1005, 1006, 1007, 1008, 1009, 1010] (by decide +kernel) (by decide +kernel)
set_option maxRecDepth 20000 in
theorem gL_law_X5_add : GoodIn wsL_law (wsV RL 53 RX5 yX5_add wsX5_add) := goodIn_app (goodIn_of _ (by decide +kernel)) ggL_law_X5_add
set_option maxRecDepth 20000 in
theorem ggL_law_X6_add : GoodIn wsL_law wsX6_add := goodIn_r _ [452, 72, 440, 441, 5, 442, 443, 105, 106, 107, 961, 962, 963, 964, 965, 966, 967, 968, 969, 970, 971, 972, 973, 974, 975, 976, 977, 978, 979, 980, 981, 982, 983, 984, 985, 986, 987, 988, 989, 990] (by decide +kernel) (by decide +kernel)
set_option maxRecDepth 20000 in
theorem gL_law_X6_add : GoodIn wsL_law (wsV RL 56 RX6 yX6_add wsX6_add) := goodIn_app (goodIn_of _ (by decide +kernel)) ggL_law_X6_add
set_option maxRecDepth 20000 in
theorem ggL_law_X5_cut : GoodIn wsL_law wsX5_cut := goodIn_r _ [456, 19, 317, 952, 953, 954, 955, 956, 957, 958, 959, 960, 999, 1000, 1001, 1002, 1003, 1004, 1005, 1006, 1007, 1008, 1009, 1010] (by decide +kernel) (by decide +kernel)
set_option maxRecDepth 20000 in
theorem gL_law_X5_cut : GoodIn wsL_law (wsV RL 57 RX5 yX5_cut wsX5_cut) := goodIn_app (goodIn_of _ (by decide +kernel)) ggL_law_X5_cut
set_option maxRecDepth 20000 in
theorem ggL_law_X6_cut : GoodIn wsL_law wsX6_cut := goodIn_r _ [460, 72, 105, 106, 5, 107, 425, 426, 427, 428, 961, 962, 963, 964, 965, 966, 967, 968, 969, 970, 971, 972, 973, 974, 975, 976, 977, 978, 979, 980, 981, 982, 983, 984, 985, 986, 987, 988, 989, 990] (by decide +kernel) (by decide +kernel)
set_option maxRecDepth 20000 in
theorem gL_law_X6_cut : GoodIn wsL_law (wsV RL 60 RX6 yX6_cut wsX6_cut) := goodIn_app (goodIn_of _ (by decide +kernel)) ggL_law_X6_cut
set_option maxRecDepth 20000 in
theorem ggL_law_X5_send : GoodIn wsL_law wsX5_send := goodIn_r _ [464, 19, 433, 434, 2, 435, 465, 466, 467, 18, 468, 138, 469, 470, 471, 472, 135, 45, 140, 473, 331, 332, 333, 334, 335, 336, 337, 46, 48, 47, 474, 475, 476, 477, 139, 478, 479, 480, 481, 482, 483, 484, 485, 486, 487, 488, 489, 490, 491, 492, 493, 494, 495, 496, 497, 498, 499, 500, 501, 952, 953, 954, 955, 956, 957, 958, 959, 960, 999, 1000, 1001, 1002, 1003, 1004, 1005, 1006, 1007, 1008, 1009, 1010] (by decide +kernel) (by decide +kernel)
set_option maxRecDepth 20000 in
theorem gL_law_X5_send : GoodIn wsL_law (wsV RL 61 RX5 yX5_send wsX5_send) := goodIn_app (goodIn_of _ (by decide +kernel)) ggL_law_X5_send
set_option maxRecDepth 20000 in
theorem ggL_law_X6_send : GoodIn wsL_law wsX6_send := goodIn_r _ [505, 506, 440, 441, 5, 442, 443, 105, 106, 107, 342, 343, 344, 345, 73, 72, 346, 347, 348, 349, 507, 508, 509, 510, 362, 363, 364, 365, 366, 367, 368, 369, 354, 355, 356, 357, 511, 512, 513, 514, 515, 516, 517, 518, 519, 520, 521, 522, 523, 524, 525, 526, 527, 528, 529, 530, 531, 532, 533, 534, 535, 536, 537, 538, 539, 540, 541, 370, 371, 372, 961, 962, 963, 964, 965, 966, 967, 968, 969, 970, 971, 972, 973, 974, 975, 976, 977, 978, 979, 980, 981, 982, 983, 984, 985, 986, 987, 988, 989, 990] (by decide +kernel) (by decide +kernel)
set_option maxRecDepth 20000 in
theorem gL_law_X6_send : GoodIn wsL_law (wsV RL 64 RX6 yX6_send wsX6_send) := goodIn_app (goodIn_of _ (by decide +kernel)) ggL_law_X6_send
set_option maxRecDepth 20000 in
theorem ggL_law_X5_hours : GoodIn wsL_law wsX5_hours := goodIn_r _ [545, 19, 318, 546, 547, 548, 18, 549, 550, 327, 328, 329, 136, 50, 137, 551, 552, 553, 554, 135, 48, 49, 555, 556, 471, 557, 558, 466, 467, 468, 138, 469, 470, 472, 45, 140, 473, 331, 332, 333, 334, 335, 336, 337, 46, 47, 474, 475, 476, 477, 139, 478, 479, 480, 481, 482, 483, 484, 485, 486, 487, 488, 489, 490, 491, 492, 493, 494, 495, 496, 497, 498, 499, 500, 501, 952, 953, 954, 955, 956, 957, 958, 959, 960, 999, 1000, 1001, 1002, 1003, 1004, 1005, 1006, 1007, 1008, 1009, 1010] (by decide +kernel) (by decide +kernel)
set_option maxRecDepth 20000 in
theorem gL_law_X5_hours : GoodIn wsL_law (wsV RL 65 RX5 yX5_hours wsX5_hours) := goodIn_app (goodIn_of _ (by decide +kernel)) ggL_law_X5_hours
set_option maxRecDepth 20000 in
theorem ggL_law_X6_hours : GoodIn wsL_law wsX6_hours := goodIn_r _ [562, 563, 72, 347, 105, 106, 5, 107, 342, 343, 344, 345, 73, 346, 348, 349, 564, 565, 566, 567, 358, 359, 360, 361, 568, 569, 570, 571, 507, 508, 509, 510, 506, 362, 363, 364, 365, 366, 367, 368, 369, 354, 355, 356, 357, 511, 512, 513, 514, 515, 516, 517, 518, 519, 520, 521, 522, 523, 524, 525, 526, 527, 528, 529, 530, 531, 532, 533, 534, 535, 536, 537, 538, 539, 540, 541, 961, 962, 963, 964, 965, 966, 967, 968, 969, 970, 971, 972, 973, 974, 975, 976, 977, 978, 979, 980, 981, 982, 983, 984, 985, 986, 987, 988, 989, 990] (by decide +kernel) (by decide +kernel)
set_option maxRecDepth 20000 in
theorem gL_law_X6_hours : GoodIn wsL_law (wsV RL 68 RX6 yX6_hours wsX6_hours) := goodIn_app (goodIn_of _ (by decide +kernel)) ggL_law_X6_hours
set_option maxRecDepth 20000 in
theorem ggL_law_X5_runs : GoodIn wsL_law wsX5_runs := goodIn_r _ [575, 21, 321, 319, 320, 576, 577, 2, 578, 579, 580, 581, 582, 19, 583, 245, 246, 247, 18, 248, 135, 136, 137, 138, 139, 140, 46, 249, 250, 251, 252, 47, 48, 49, 50, 546, 547, 548, 549, 550, 327, 328, 329, 551, 552, 553, 554, 555, 556, 471, 557, 558, 466, 467, 468, 469, 470, 472, 45, 473, 331, 332, 333, 334, 335, 336, 337, 474, 475, 476, 477, 478, 479, 480, 481, 482, 483, 484, 485, 486, 487, 488, 489, 490, 491, 492, 493, 494, 495, 496, 497, 498, 499, 500, 501, 322, 323, 324, 325, 952, 953, 954, 955, 956, 957, 958, 959, 960, 999, 1000, 1001, 1002, 1003, 1004, 1005, 1006, 1007, 1008, 1009, 1010] (by decide +kernel) (by decide +kernel)
set_option maxRecDepth 20000 in
theorem gL_law_X5_runs : GoodIn wsL_law (wsV RL 69 RX5 yX5_runs wsX5_runs) := goodIn_app (goodIn_of _ (by decide +kernel)) ggL_law_X5_runs
set_option maxRecDepth 20000 in
theorem ggL_law_X6_runs : GoodIn wsL_law wsX6_runs := goodIn_r _ [587, 389, 347, 348, 349, 588, 589, 5, 590, 591, 105, 106, 107, 342, 343, 344, 345, 73, 72, 346, 564, 565, 566, 567, 358, 359, 360, 361, 568, 569, 570, 571, 507, 508, 509, 510, 506, 362, 363, 364, 365, 366, 367, 368, 369, 354, 355, 356, 357, 511, 512, 513, 514, 515, 516, 517, 518, 519, 520, 521, 522, 523, 524, 525, 526, 527, 528, 529, 530, 531, 532, 533, 534, 535, 536, 537, 350, 351, 352, 353, 961, 962, 963, 964, 965, 966, 967, 968, 969, 970, 971, 972, 973, 974, 975, 976, 977, 978, 979, 980, 981, 982, 983, 984, 985, 986, 987, 988, 989, 990] (by decide +kernel) (by decide +kernel)
set_option maxRecDepth 20000 in
theorem gL_law_X6_runs : GoodIn wsL_law (wsV RL 72 RX6 yX6_runs wsX6_runs) := goodIn_app (goodIn_of _ (by decide +kernel)) ggL_law_X6_runs
set_option maxRecDepth 20000 in
theorem ggL_law_X5_ahead : GoodIn wsL_law wsX5_ahead := goodIn_r _ [595, 21, 379, 381, 382, 383, 2, 384, 19, 316, 576, 577, 578, 579, 580, 581, 582, 319, 320, 321, 583, 245, 246, 247, 18, 248, 135, 136, 137, 138, 139, 140, 46, 249, 250, 251, 252, 47, 48, 49, 50, 546, 547, 548, 549, 550, 327, 328, 329, 551, 552, 553, 554, 555, 556, 471, 557, 558, 466, 467, 468, 469, 470, 472, 45, 473, 331, 332, 333, 334, 335, 336, 337, 474, 475, 476, 477, 478, 479, 480, 481, 482, 483, 484, 485, 486, 487, 488, 489, 490, 491, 492, 493, 494, 495, 496, 497, 498, 499, 500, 501, 952, 953, 954, 955, 956, 957, 958, 959, 960, 999, 1000, 1001, 1002, 1003, 1004, 1005, 1006, 1007, 1008, 1009, 1010] (by decide +kernel) (by decide +kernel)
set_option maxRecDepth 20000 in
theorem gL_law_X5_ahead : GoodIn wsL_law (wsV RL 73 RX5 yX5_ahead wsX5_ahead) := goodIn_app (goodIn_of _ (by decide +kernel)) ggL_law_X5_ahead
set_option maxRecDepth 20000 in
theorem ggL_law_X6_ahead : GoodIn wsL_law wsX6_ahead := goodIn_r _ [599, 390, 391, 392, 5, 393, 72, 105, 106, 107, 588, 589, 590, 591, 342, 343, 344, 345, 73, 346, 347, 348, 349, 564, 565, 566, 567, 358, 359, 360, 361, 568, 569, 570, 571, 507, 508, 509, 510, 506, 362, 363, 364, 365, 366, 367, 368, 369, 354, 355, 356, 357, 511, 512, 513, 514, 515, 516, 517, 518, 519, 520, 521, 522, 523, 524, 525, 526, 527, 528, 529, 530, 531, 532, 533, 534, 535, 536, 537, 961, 962, 963, 964, 965, 966, 967, 968, 969, 970, 971, 972, 973, 974, 975, 976, 977, 978, 979, 980, 981, 982, 983, 984, 985, 986, 987, 988, 989, 990] (by decide +kernel) (by decide +kernel)
set_option maxRecDepth 20000 in
theorem gL_law_X6_ahead : GoodIn wsL_law (wsV RL 76 RX6 yX6_ahead wsX6_ahead) := goodIn_app (goodIn_of _ (by decide +kernel)) ggL_law_X6_ahead
set_option maxRecDepth 20000 in
theorem ggL_law_X5_when : GoodIn wsL_law wsX5_when := goodIn_r _ [603, 21, 579, 580, 581, 2, 582, 19, 319, 320, 321, 583, 245, 246, 247, 18, 248, 135, 136, 137, 138, 139, 140, 46, 249, 250, 251, 252, 47, 48, 49, 50, 326, 327, 328, 329, 330, 331, 332, 333, 45, 334, 335, 336, 337, 604, 552, 553, 554, 555, 556, 471, 557, 558, 466, 467, 468, 469, 470, 472, 473, 474, 475, 476, 477, 478, 479, 480, 481, 482, 483, 484, 485, 486, 487, 488, 489, 490, 491, 492, 493, 494, 495, 496, 497, 498, 499, 500, 501, 952, 953, 954, 955, 956, 957, 958, 959, 960, 999, 1000, 1001, 1002, 1003, 1004, 1005, 1006, 1007, 1008, 1009, 1010] (by decide +kernel) (by decide +kernel)
set_option maxRecDepth 20000 in
theorem gL_law_X5_when : GoodIn wsL_law (wsV RL 77 RX5 yX5_when wsX5_when) := goodIn_app (goodIn_of _ (by decide +kernel)) ggL_law_X5_when
set_option maxRecDepth 20000 in
theorem ggL_law_X6_when : GoodIn wsL_law wsX6_when := goodIn_r _ [608, 506, 342, 343, 344, 5, 345, 73, 72, 346, 347, 348, 349, 564, 565, 566, 567, 358, 359, 360, 361, 568, 569, 570, 571, 507, 508, 509, 510, 362, 363, 364, 365, 366, 367, 368, 369, 354, 355, 356, 357, 511, 512, 513, 514, 515, 516, 517, 518, 519, 520, 521, 522, 523, 524, 525, 526, 527, 528, 529, 530, 531, 532, 533, 534, 535, 536, 537, 961, 962, 963, 964, 965, 966, 967, 968, 969, 970, 971, 972, 973, 974, 975, 976, 977, 978, 979, 980, 981, 982, 983, 984, 985, 986, 987, 988, 989, 990] (by decide +kernel) (by decide +kernel)
set_option maxRecDepth 20000 in
theorem gL_law_X6_when : GoodIn wsL_law (wsV RL 80 RX6 yX6_when wsX6_when) := goodIn_app (goodIn_of _ (by decide +kernel)) ggL_law_X6_when
set_option maxRecDepth 20000 in
theorem ggL_law_X5_kind : GoodIn wsL_law wsX5_kind := goodIn_r _ [612, 21, 377, 321, 381, 382, 383, 2, 384, 19, 316, 576, 577, 578, 613, 614, 615, 579, 580, 581, 582, 319, 320, 583, 245, 246, 247, 18, 248, 135, 136, 137, 138, 139, 140, 46, 249, 250, 251, 252, 47, 48, 49, 50, 546, 547, 548, 549, 550, 327, 328, 329, 551, 552, 553, 554, 555, 556, 471, 557, 558, 466, 467, 468, 469, 470, 472, 45, 473, 331, 332, 333, 334, 335, 336, 337, 474, 475, 476, 477, 478, 479, 480, 481, 482, 483, 484, 485, 486, 487, 488, 489, 490, 491, 492, 493, 494, 495, 496, 497, 498, 499, 500, 501, 952, 953, 954, 955, 956, 957, 958, 959, 960, 999, 1000, 1001, 1002, 1003, 1004, 1005, 1006, 1007, 1008, 1009, 1010] (by decide +kernel) (by decide +kernel)
set_option maxRecDepth 20000 in
theorem gL_law_X5_kind : GoodIn wsL_law (wsV RL 81 RX5 yX5_kind wsX5_kind) := goodIn_app (goodIn_of _ (by decide +kernel)) ggL_law_X5_kind
set_option maxRecDepth 20000 in
theorem ggL_law_X6_kind : GoodIn wsL_law wsX6_kind := goodIn_r _ [619, 390, 391, 392, 5, 393, 72, 105, 106, 107, 588, 589, 590, 591, 620, 621, 622, 623, 624, 625, 626, 627, 628, 629, 630, 631, 632, 342, 343, 344, 345, 73, 346, 347, 348, 349, 522, 523, 524, 525, 633, 634, 635, 636, 564, 565, 566, 567, 358, 359, 360, 361, 568, 569, 570, 571, 507, 508, 509, 510, 506, 362, 363, 364, 365, 366, 367, 368, 369, 354, 355, 356, 357, 511, 512, 513, 514, 515, 516, 517, 518, 519, 520, 521, 526, 527, 528, 529, 530, 531, 532, 533, 534, 535, 536, 537, 637, 638, 639, 640, 641, 642, 643, 644, 961, 962, 963, 964, 965, 966, 967, 968, 969, 970, 971, 972, 973, 974, 975, 976, 977, 978, 979, 980, 981, 982, 983, 984, 985, 986, 987, 988, 989, 990] (by decide +kernel) (by decide +kernel)
set_option maxRecDepth 20000 in
theorem gL_law_X6_kind : GoodIn wsL_law (wsV RL 84 RX6 yX6_kind wsX6_kind) := goodIn_app (goodIn_of _ (by decide +kernel)) ggL_law_X6_kind
set_option maxRecDepth 20000 in
theorem ggL_law_X5_begin : GoodIn wsL_law wsX5_begin := goodIn_r _ [648, 19, 378, 21, 379, 321, 381, 382, 383, 2, 384, 316, 576, 577, 578, 613, 614, 615, 579, 580, 581, 582, 319, 320, 583, 245, 246, 247, 18, 248, 135, 136, 137, 138, 139, 140, 46, 249, 250, 251, 252, 47, 48, 49, 50, 546, 547, 548, 549, 550, 327, 328, 329, 551, 552, 553, 554, 555, 556, 471, 557, 558, 466, 467, 468, 469, 470, 472, 45, 473, 331, 332, 333, 334, 335, 336, 337, 474, 475, 476, 477, 478, 479, 480, 481, 482, 483, 484, 485, 486, 487, 488, 489, 490, 491, 492, 493, 494, 495, 496, 497, 498, 499, 500, 501, 952, 953, 954, 955, 956, 957, 958, 959, 960, 999, 1000, 1001, 1002, 1003, 1004, 1005, 1006, 1007, 1008, 1009, 1010] (by decide +kernel) (by decide +kernel)
set_option maxRecDepth 20000 in
theorem gL_law_X5_begin : GoodIn wsL_law (wsV RL 85 RX5 yX5_begin wsX5_begin) := goodIn_app (goodIn_of _ (by decide +kernel)) ggL_law_X5_begin
set_option maxRecDepth 20000 in
theorem ggL_law_X6_begin : GoodIn wsL_law wsX6_begin := goodIn_r _ [652, 72, 390, 391, 392, 5, 393, 105, 106, 107, 588, 589, 590, 591, 620, 621, 622, 623, 624, 625, 626, 627, 628, 629, 630, 631, 632, 342, 343, 344, 345, 73, 346, 347, 348, 349, 522, 523, 524, 525, 633, 634, 635, 636, 564, 565, 566, 567, 358, 359, 360, 361, 568, 569, 570, 571, 507, 508, 509, 510, 506, 362, 363, 364, 365, 366, 367, 368, 369, 354, 355, 356, 357, 511, 512, 513, 514, 515, 516, 517, 518, 519, 520, 521, 526, 527, 528, 529, 530, 531, 532, 533, 534, 535, 536, 537, 637, 638, 639, 640, 641, 642, 643, 644, 961, 962, 963, 964, 965, 966, 967, 968, 969, 970, 971, 972, 973, 974, 975, 976, 977, 978, 979, 980, 981, 982, 983, 984, 985, 986, 987, 988, 989, 990] (by decide +kernel) (by decide +kernel)
set_option maxRecDepth 20000 in
theorem gL_law_X6_begin : GoodIn wsL_law (wsV RL 88 RX6 yX6_begin wsX6_begin) := goodIn_app (goodIn_of _ (by decide +kernel)) ggL_law_X6_begin
set_option maxRecDepth 20000 in
theorem ggL_law_X5_need : GoodIn wsL_law wsX5_need := goodIn_r _ [656, 19, 379, 657, 556, 471, 557, 21, 378, 381, 382, 383, 2, 384, 316, 576, 577, 578, 579, 580, 581, 582, 319, 320, 321, 583, 245, 246, 247, 18, 248, 135, 136, 137, 138, 139, 140, 46, 249, 250, 251, 252, 47, 48, 49, 50, 658, 659, 660, 661, 326, 327, 328, 329, 604, 552, 553, 554, 555, 558, 466, 467, 468, 469, 470, 472, 45, 473, 331, 332, 333, 334, 335, 336, 337, 474, 475, 476, 477, 478, 479, 480, 481, 482, 483, 484, 485, 486, 487, 488, 489, 490, 491, 492, 493, 494, 495, 496, 497, 498, 499, 500, 501, 952, 953, 954, 955, 956, 957, 958, 959, 960, 999, 1000, 1001, 1002, 1003, 1004, 1005, 1006, 1007, 1008, 1009, 1010] (by decide +kernel) (by decide +kernel)
set_option maxRecDepth 20000 in
theorem gL_law_X5_need : GoodIn wsL_law (wsV RL 89 RX5 yX5_need wsX5_need) := goodIn_app (goodIn_of _ (by decide +kernel)) ggL_law_X5_need
set_option maxRecDepth 20000 in
theorem ggL_law_X6_need : GoodIn wsL_law wsX6_need := goodIn_r _ [665, 72, 348, 390, 391, 392, 5, 393, 105, 106, 107, 588, 589, 590, 591, 342, 343, 344, 345, 73, 346, 347, 349, 522, 523, 524, 525, 564, 565, 566, 567, 358, 359, 360, 361, 568, 569, 570, 571, 507, 508, 509, 510, 506, 362, 363, 364, 365, 366, 367, 368, 369, 354, 355, 356, 357, 511, 512, 513, 514, 515, 516, 517, 518, 519, 520, 521, 526, 527, 528, 529, 530, 531, 532, 533, 534, 535, 536, 537, 961, 962, 963, 964, 965, 966, 967, 968, 969, 970, 971, 972, 973, 974, 975, 976, 977, 978, 979, 980, 981, 982, 983, 984, 985, 986, 987, 988, 989, 990] (by decide +kernel) (by decide +kernel)
set_option maxRecDepth 20000 in
theorem gL_law_X6_need : GoodIn wsL_law (wsV RL 92 RX6 yX6_need wsX6_need) := goodIn_app (goodIn_of _ (by decide +kernel)) ggL_law_X6_need
set_option maxRecDepth 20000 in
theorem ggL_law_X5_swap : GoodIn wsL_law wsX5_swap := goodIn_r _ [669, 19, 317, 398, 576, 577, 2, 578, 613, 614, 615, 670, 671, 672, 673, 21, 321, 579, 580, 581, 582, 319, 320, 583, 245, 246, 247, 18, 248, 135, 136, 137, 138, 139, 140, 46, 249, 250, 251, 252, 47, 48, 49, 50, 546, 547, 548, 549, 550, 327, 328, 329, 551, 552, 553, 554, 555, 556, 471, 557, 558, 466, 467, 468, 469, 470, 472, 45, 473, 331, 332, 333, 334, 335, 336, 337, 474, 475, 476, 477, 478, 479, 480, 481, 482, 483, 484, 485, 486, 487, 488, 489, 490, 491, 492, 493, 494, 495, 496, 497, 498, 499, 500, 501, 674, 675, 676, 677, 952, 953, 954, 955, 956, 957, 958, 959, 960, 999, 1000, 1001, 1002, 1003, 1004, 1005, 1006, 1007, 1008, 1009, 1010] (by decide +kernel) (by decide +kernel)
set_option maxRecDepth 20000 in
theorem gL_law_X5_swap : GoodIn wsL_law (wsV RL 93 RX5 yX5_swap wsX5_swap) := goodIn_app (goodIn_of _ (by decide +kernel)) ggL_law_X5_swap
set_option maxRecDepth 20000 in
theorem ggL_law_X6_swap : GoodIn wsL_law wsX6_swap := goodIn_r _ [681, 72, 73, 588, 589, 5, 590, 591, 105, 106, 107, 620, 621, 622, 342, 343, 344, 345, 346, 347, 348, 349, 633, 634, 635, 636, 564, 565, 566, 567, 358, 359, 360, 361, 568, 569, 570, 571, 507, 508, 509, 510, 506, 362, 363, 364, 365, 366, 367, 368, 369, 354, 355, 356, 357, 511, 512, 513, 514, 515, 516, 517, 518, 519, 520, 521, 522, 523, 524, 525, 526, 527, 528, 529, 530, 531, 532, 533, 534, 535, 536, 537, 627, 628, 629, 630, 631, 632, 637, 638, 639, 640, 641, 642, 643, 644, 961, 962, 963, 964, 965, 966, 967, 968, 969, 970, 971, 972, 973, 974, 975, 976, 977, 978, 979, 980, 981, 982, 983, 984, 985, 986, 987, 988, 989, 990] (by decide +kernel) (by decide +kernel)
set_option maxRecDepth 20000 in
theorem gL_law_X6_swap : GoodIn wsL_law (wsV RL 96 RX6 yX6_swap wsX6_swap) := goodIn_app (goodIn_of _ (by decide +kernel)) ggL_law_X6_swap
set_option maxRecDepth 20000 in
theorem ggL_law_X5_bridge : GoodIn wsL_law wsX5_bridge := goodIn_r _ [685, 19, 316, 21, 583, 321, 576, 577, 2, 578, 613, 614, 615, 670, 671, 672, 673, 579, 580, 581, 582, 319, 320, 245, 246, 247, 18, 248, 135, 136, 137, 138, 139, 140, 46, 249, 250, 251, 252, 47, 48, 49, 50, 546, 547, 548, 549, 550, 327, 328, 329, 551, 552, 553, 554, 555, 556, 471, 557, 558, 466, 467, 468, 469, 470, 472, 45, 473, 331, 332, 333, 334, 335, 336, 337, 474, 475, 476, 477, 478, 479, 480, 481, 482, 483, 484, 485, 486, 487, 488, 489, 490, 491, 492, 493, 494, 495, 496, 497, 498, 499, 500, 501, 952, 953, 954, 955, 956, 957, 958, 959, 960, 999, 1000, 1001, 1002, 1003, 1004, 1005, 1006, 1007, 1008, 1009, 1010] (by decide +kernel) (by decide +kernel)
set_option maxRecDepth 20000 in
theorem gL_law_X5_bridge : GoodIn wsL_law (wsV RL 97 RX5 yX5_bridge wsX5_bridge) := goodIn_app (goodIn_of _ (by decide +kernel)) ggL_law_X5_bridge
set_option maxRecDepth 20000 in
theorem ggL_law_X6_bridge : GoodIn wsL_law wsX6_bridge := goodIn_r _ [689, 72, 346, 588, 589, 5, 590, 591, 105, 106, 107, 620, 621, 622, 342, 343, 344, 345, 73, 347, 348, 349, 633, 634, 635, 636, 564, 565, 566, 567, 358, 359, 360, 361, 568, 569, 570, 571, 507, 508, 509, 510, 506, 362, 363, 364, 365, 366, 367, 368, 369, 354, 355, 356, 357, 511, 512, 513, 514, 515, 516, 517, 518, 519, 520, 521, 522, 523, 524, 525, 526, 527, 528, 529, 530, 531, 532, 533, 534, 535, 536, 537, 627, 628, 629, 630, 631, 632, 637, 638, 639, 640, 641, 642, 643, 644, 961, 962, 963, 964, 965, 966, 967, 968, 969, 970, 971, 972, 973, 974, 975, 976, 977, 978, 979, 980, 981, 982, 983, 984, 985, 986, 987, 988, 989, 990] (by decide +kernel) (by decide +kernel)
set_option maxRecDepth 20000 in
theorem gL_law_X6_bridge : GoodIn wsL_law (wsV RL 100 RX6 yX6_bridge wsX6_bridge) := goodIn_app (goodIn_of _ (by decide +kernel)) ggL_law_X6_bridge
set_option maxRecDepth 20000 in
theorem ggL_law_X5_luck : GoodIn wsL_law wsX5_luck := goodIn_r _ [693, 694, 21, 319, 695, 696, 2, 697, 613, 614, 615, 698, 699, 700, 701, 702, 703, 704, 579, 580, 581, 582, 19, 320, 321, 583, 245, 246, 247, 18, 248, 135, 136, 137, 138, 139, 140, 46, 249, 250, 251, 252, 47, 48, 49, 50, 326, 327, 328, 329, 604, 552, 553, 554, 555, 556, 471, 557, 558, 466, 467, 468, 469, 470, 472, 45, 473, 331, 332, 333, 334, 335, 336, 337, 474, 475, 476, 477, 478, 479, 480, 481, 482, 483, 484, 485, 486, 487, 488, 489, 490, 491, 492, 493, 494, 495, 496, 497, 498, 499, 500, 501, 705, 706, 707, 708, 709, 710, 711, 712, 713, 714, 952, 953, 954, 955, 956, 957, 958, 959, 960, 999, 1000, 1001, 1002, 1003, 1004, 1005, 1006, 1007, 1008, 1009, 1010] (by decide +kernel) (by decide +kernel)
set_option maxRecDepth 20000 in
theorem gL_law_X5_luck : GoodIn wsL_law (wsV RL 101 RX5 yX5_luck wsX5_luck) := goodIn_app (goodIn_of _ (by decide +kernel)) ggL_law_X5_luck
set_option maxRecDepth 20000 in
theorem ggL_law_X6_luck : GoodIn wsL_law wsX6_luck := goodIn_r _ [718, 719, 720, 721, 722, 723, 105, 106, 5, 107, 620, 621, 622, 724, 725, 726, 727, 728, 348, 347, 342, 343, 344, 345, 73, 72, 346, 349, 358, 359, 360, 361, 568, 569, 570, 571, 507, 508, 509, 510, 506, 362, 363, 364, 365, 366, 367, 368, 369, 354, 355, 356, 357, 511, 512, 513, 514, 515, 516, 517, 518, 519, 520, 521, 522, 523, 524, 525, 526, 527, 528, 529, 530, 531, 532, 533, 534, 535, 536, 537, 729, 730, 731, 732, 733, 734, 961, 962, 963, 964, 965, 966, 967, 968, 969, 970, 971, 972, 973, 974, 975, 976, 977, 978, 979, 980, 981, 982, 983, 984, 985, 986, 987, 988, 989, 990] (by decide +kernel) (by decide +kernel)
set_option maxRecDepth 20000 in
theorem gL_law_X6_luck : GoodIn wsL_law (wsV RL 105 RX6 yX6_luck wsX6_luck) := goodIn_app (goodIn_of _ (by decide +kernel)) ggL_law_X6_luck
set_option maxRecDepth 20000 in
theorem ggL_law_X5_mean : GoodIn wsL_law wsX5_mean := goodIn_r _ [738, 694, 21, 321, 695, 696, 2, 697, 613, 614, 615, 698, 699, 700, 701, 702, 703, 704, 579, 580, 581, 582, 19, 319, 320, 583, 245, 246, 247, 18, 248, 135, 136, 137, 138, 139, 140, 46, 249, 250, 251, 252, 47, 48, 49, 50, 326, 327, 328, 329, 604, 552, 553, 554, 555, 556, 471, 557, 558, 466, 467, 468, 469, 470, 472, 45, 473, 331, 332, 333, 334, 335, 336, 337, 474, 475, 476, 477, 478, 479, 480, 481, 482, 483, 484, 485, 486, 487, 488, 489, 490, 491, 492, 493, 494, 495, 496, 497, 498, 499, 500, 501, 705, 706, 707, 708, 709, 710, 711, 712, 713, 714, 952, 953, 954, 955, 956, 957, 958, 959, 960, 999, 1000, 1001, 1002, 1003, 1004, 1005, 1006, 1007, 1008, 1009, 1010] (by decide +kernel) (by decide +kernel)
set_option maxRecDepth 20000 in
theorem gL_law_X5_mean : GoodIn wsL_law (wsV RL 106 RX5 yX5_mean wsX5_mean) := goodIn_app (goodIn_of _ (by decide +kernel)) ggL_law_X5_mean
set_option maxRecDepth 20000 in
theorem ggL_law_X6_mean : GoodIn wsL_law wsX6_mean := goodIn_r _ [742, 719, 720, 721, 728, 723, 105, 106, 5, 107, 620, 621, 622, 724, 725, 726, 727, 722, 348, 347, 342, 343, 344, 345, 73, 72, 346, 349, 358, 359, 360, 361, 568, 569, 570, 571, 507, 508, 509, 510, 506, 362, 363, 364, 365, 366, 367, 368, 369, 354, 355, 356, 357, 511, 512, 513, 514, 515, 516, 517, 518, 519, 520, 521, 522, 523, 524, 525, 526, 527, 528, 529, 530, 531, 532, 533, 534, 535, 536, 537, 729, 730, 731, 732, 733, 734, 961, 962, 963, 964, 965, 966, 967, 968, 969, 970, 971, 972, 973, 974, 975, 976, 977, 978, 979, 980, 981, 982, 983, 984, 985, 986, 987, 988, 989, 990] (by decide +kernel) (by decide +kernel)
set_option maxRecDepth 20000 in
theorem gL_law_X6_mean : GoodIn wsL_law (wsV RL 109 RX6 yX6_mean wsX6_mean) := goodIn_app (goodIn_of _ (by decide +kernel)) ggL_law_X6_mean
set_option maxRecDepth 20000 in
theorem ggL_law_X5_see : GoodIn wsL_law wsX5_see := goodIn_r _ [746, 25, 120, 381, 382, 383, 2, 384, 19, 316, 747, 748, 749, 24, 750, 751, 54, 55, 56, 952, 953, 954, 955, 956, 957, 958, 959, 960, 1011, 1012, 1013, 1014, 999, 1000, 1001, 1002, 1003, 1004, 1005, 1006, 1007, 1008, 1009, 1010] (by decide +kernel) (by decide +kernel)
set_option maxRecDepth 20000 in
theorem gL_law_X5_see : GoodIn wsL_law (wsV RL 110 RX5 yX5_see wsX5_see) := goodIn_app (goodIn_of _ (by decide +kernel)) ggL_law_X5_see
set_option maxRecDepth 20000 in
theorem ggL_law_X6_see : GoodIn wsL_law wsX6_see := goodIn_r _ [755, 756, 757, 72, 105, 106, 5, 107, 390, 391, 392, 393, 961, 962, 963, 964, 965, 966, 967, 968, 969, 970, 971, 972, 973, 974, 975, 976, 977, 978, 979, 980, 981, 982, 983, 984, 985, 986, 987, 988, 989, 990] (by decide +kernel) (by decide +kernel)
set_option maxRecDepth 20000 in
theorem gL_law_X6_see : GoodIn wsL_law (wsV RL 113 RX6 yX6_see wsX6_see) := goodIn_app (goodIn_of _ (by decide +kernel)) ggL_law_X6_see
set_option maxRecDepth 20000 in
theorem ggL_law_X5_forget : GoodIn wsL_law wsX5_forget := goodIn_r _ [761, 25, 120, 952, 953, 954, 955, 956, 957, 958, 959, 960, 1011, 1012, 1013, 1014] (by decide +kernel) (by decide +kernel)
set_option maxRecDepth 20000 in
theorem gL_law_X5_forget : GoodIn wsL_law (wsV RL 114 RX5 yX5_forget wsX5_forget) := goodIn_app (goodIn_of _ (by decide +kernel)) ggL_law_X5_forget
set_option maxRecDepth 20000 in
theorem ggL_law_X6_forget : GoodIn wsL_law wsX6_forget := goodIn_r _ [765, 72, 105, 106, 5, 107, 425, 426, 427, 428, 961, 962, 963, 964, 965, 966, 967, 968, 969, 970, 971, 972, 973, 974, 975, 976, 977, 978, 979, 980, 981, 982, 983, 984, 985, 986, 987, 988, 989, 990] (by decide +kernel) (by decide +kernel)
set_option maxRecDepth 20000 in
theorem gL_law_X6_forget : GoodIn wsL_law (wsV RL 117 RX6 yX6_forget wsX6_forget) := goodIn_app (goodIn_of _ (by decide +kernel)) ggL_law_X6_forget
set_option maxRecDepth 20000 in
theorem ggL_law_X5_kinds : GoodIn wsL_law wsX5_kinds := goodIn_r _ [769, 21, 377, 381, 382, 383, 2, 384, 19, 316, 579, 580, 581, 582, 319, 320, 321, 583, 245, 246, 247, 18, 248, 135, 136, 137, 138, 139, 140, 46, 249, 250, 251, 252, 47, 48, 49, 50, 770, 771, 772, 773, 25, 774, 775, 776, 24, 777, 751, 54, 778, 556, 471, 557, 779, 780, 781, 782, 783, 55, 56, 326, 327, 328, 329, 604, 552, 553, 554, 555, 558, 466, 467, 468, 469, 470, 472, 45, 473, 331, 332, 333, 334, 335, 336, 337, 474, 475, 476, 477, 478, 479, 480, 481, 482, 483, 484, 485, 486, 487, 488, 489, 490, 491, 492, 493, 494, 495, 496, 497, 498, 499, 500, 501, 952, 953, 954, 955, 956, 957, 958, 959, 960, 999, 1000, 1001, 1002, 1003, 1004, 1005, 1006, 1007, 1008, 1009, 1010, 1011, 1012, 1013, 1014] (by decide +kernel) (by decide +kernel)
set_option maxRecDepth 20000 in
theorem gL_law_X5_kinds : GoodIn wsL_law (wsV RL 118 RX5 yX5_kinds wsX5_kinds) := goodIn_app (goodIn_of _ (by decide +kernel)) ggL_law_X5_kinds
set_option maxRecDepth 20000 in
theorem ggL_law_X6_kinds : GoodIn wsL_law wsX6_kinds := goodIn_r _ [787, 788, 789, 790, 5, 791, 390, 391, 392, 393, 72, 105, 106, 107, 792, 793, 794, 795, 73, 78, 342, 343, 344, 345, 346, 347, 348, 349, 354, 355, 356, 357, 564, 565, 566, 567, 358, 359, 360, 361, 568, 569, 570, 571, 507, 508, 509, 510, 506, 362, 363, 364, 365, 366, 367, 368, 369, 511, 512, 513, 514, 515, 516, 517, 518, 519, 520, 521, 522, 523, 524, 525, 526, 527, 528, 529, 530, 531, 532, 533, 534, 535, 536, 537, 370, 371, 372, 961, 962, 963, 964, 965, 966, 967, 968, 969, 970, 971, 972, 973, 974, 975, 976, 977, 978, 979, 980, 981, 982, 983, 984, 985, 986, 987, 988, 989, 990] (by decide +kernel) (by decide +kernel)
set_option maxRecDepth 20000 in
theorem gL_law_X6_kinds : GoodIn wsL_law (wsV RL 121 RX6 yX6_kinds wsX6_kinds) := goodIn_app (goodIn_of _ (by decide +kernel)) ggL_law_X6_kinds
set_option maxRecDepth 20000 in
theorem ggL_law_X5_leaks : GoodIn wsL_law wsX5_leaks := goodIn_r _ [799, 381, 382, 383, 2, 384, 19, 316, 800, 801, 802, 803, 21, 380, 579, 580, 581, 582, 319, 320, 321, 583, 245, 246, 247, 18, 248, 135, 136, 137, 138, 139, 140, 46, 249, 250, 251, 252, 47, 48, 49, 50, 770, 771, 772, 773, 25, 774, 775, 776, 24, 777, 751, 54, 778, 556, 471, 557, 779, 780, 781, 782, 783, 55, 56, 326, 327, 328, 329, 604, 552, 553, 554, 555, 558, 466, 467, 468, 469, 470, 472, 45, 473, 331, 332, 333, 334, 335, 336, 337, 474, 475, 476, 477, 478, 479, 480, 481, 482, 483, 484, 485, 486, 487, 488, 489, 490, 491, 492, 493, 494, 495, 496, 497, 498, 499, 500, 501, 952, 953, 954, 955, 956, 957, 958, 959, 960, 999, 1000, 1001, 1002, 1003, 1004, 1005, 1006, 1007, 1008, 1009, 1010, 1011, 1012, 1013, 1014] (by decide +kernel) (by decide +kernel)
set_option maxRecDepth 20000 in
theorem gL_law_X5_leaks : GoodIn wsL_law (wsV RL 122 RX5 yX5_leaks wsX5_leaks) := goodIn_app (goodIn_of _ (by decide +kernel)) ggL_law_X5_leaks
set_option maxRecDepth 20000 in
theorem ggL_law_X6_leaks : GoodIn wsL_law wsX6_leaks := goodIn_r _ [807, 788, 789, 790, 5, 791, 390, 391, 392, 393, 72, 105, 106, 107, 792, 793, 794, 795, 73, 78, 342, 343, 344, 345, 346, 347, 348, 349, 354, 355, 356, 357, 564, 565, 566, 567, 358, 359, 360, 361, 568, 569, 570, 571, 507, 508, 509, 510, 506, 362, 363, 364, 365, 366, 367, 368, 369, 511, 512, 513, 514, 515, 516, 517, 518, 519, 520, 521, 522, 523, 524, 525, 526, 527, 528, 529, 530, 531, 532, 533, 534, 535, 536, 537, 370, 371, 372, 961, 962, 963, 964, 965, 966, 967, 968, 969, 970, 971, 972, 973, 974, 975, 976, 977, 978, 979, 980, 981, 982, 983, 984, 985, 986, 987, 988, 989, 990] (by decide +kernel) (by decide +kernel)
set_option maxRecDepth 20000 in
theorem gL_law_X6_leaks : GoodIn wsL_law (wsV RL 125 RX6 yX6_leaks wsX6_leaks) := goodIn_app (goodIn_of _ (by decide +kernel)) ggL_law_X6_leaks
set_option maxRecDepth 20000 in
theorem ggL_law_X5_ask : GoodIn wsL_law wsX5_ask := goodIn_r _ [811, 381, 382, 383, 2, 384, 19, 316, 613, 614, 615, 800, 801, 802, 803, 21, 380, 579, 580, 581, 582, 319, 320, 321, 583, 245, 246, 247, 18, 248, 135, 136, 137, 138, 139, 140, 46, 249, 250, 251, 252, 47, 48, 49, 50, 770, 771, 772, 773, 25, 774, 775, 776, 24, 777, 751, 54, 778, 556, 471, 557, 779, 780, 781, 782, 783, 55, 56, 326, 327, 328, 329, 604, 552, 553, 554, 555, 558, 466, 467, 468, 469, 470, 472, 45, 473, 331, 332, 333, 334, 335, 336, 337, 474, 475, 476, 477, 478, 479, 480, 481, 482, 483, 484, 485, 486, 487, 488, 489, 490, 491, 492, 493, 494, 495, 496, 497, 498, 499, 500, 501, 812, 813, 814, 815, 32, 379, 816, 817, 818, 819, 820, 821, 822, 823, 824, 825, 826, 657, 952, 953, 954, 955, 956, 957, 958, 959, 960, 999, 1000, 1001, 1002, 1003, 1004, 1005, 1006, 1007, 1008, 1009, 1010, 1011, 1012, 1013, 1014] (by decide +kernel) (by decide +kernel)
set_option maxRecDepth 20000 in
theorem gL_law_X5_ask : GoodIn wsL_law (wsV RL 126 RX5 yX5_ask wsX5_ask) := goodIn_app (goodIn_of _ (by decide +kernel)) ggL_law_X5_ask
set_option maxRecDepth 20000 in
theorem ggL_law_X6_ask : GoodIn wsL_law wsX6_ask := goodIn_r _ [830, 79, 78, 390, 391, 392, 5, 393, 72, 105, 106, 107, 620, 621, 622, 792, 793, 794, 795, 73, 342, 343, 344, 345, 346, 347, 348, 349, 354, 355, 356, 357, 564, 565, 566, 567, 358, 359, 360, 361, 568, 569, 570, 571, 507, 508, 509, 510, 506, 362, 363, 364, 365, 366, 367, 368, 369, 511, 512, 513, 514, 515, 516, 517, 518, 519, 520, 521, 522, 523, 524, 525, 526, 527, 528, 529, 530, 531, 532, 533, 534, 535, 536, 537, 370, 371, 372, 961, 962, 963, 964, 965, 966, 967, 968, 969, 970, 971, 972, 973, 974, 975, 976, 977, 978, 979, 980, 981, 982, 983, 984, 985, 986, 987, 988, 989, 990] (by decide +kernel) (by decide +kernel)
set_option maxRecDepth 20000 in
theorem gL_law_X6_ask : GoodIn wsL_law (wsV RL 129 RX6 yX6_ask wsX6_ask) := goodIn_app (goodIn_of _ (by decide +kernel)) ggL_law_X6_ask
set_option maxRecDepth 20000 in
theorem ggL_law_X5_drift : GoodIn wsL_law wsX5_drift := goodIn_r _ [834, 19, 316, 835, 21, 321, 613, 614, 2, 615, 579, 580, 581, 582, 319, 320, 583, 245, 246, 247, 18, 248, 135, 136, 137, 138, 139, 140, 46, 249, 250, 251, 252, 47, 48, 49, 50, 604, 552, 553, 554, 555, 556, 471, 557, 558, 466, 467, 468, 469, 470, 472, 45, 473, 331, 332, 333, 334, 335, 336, 337, 474, 475, 476, 477, 478, 479, 480, 481, 482, 483, 484, 485, 486, 487, 488, 489, 490, 491, 492, 493, 494, 495, 496, 497, 498, 499, 500, 501, 322, 323, 324, 325, 952, 953, 954, 955, 956, 957, 958, 959, 960, 999, 1000, 1001, 1002, 1003, 1004, 1005, 1006, 1007, 1008, 1009, 1010] (by decide +kernel) (by decide +kernel)
set_option maxRecDepth 20000 in
theorem gL_law_X5_drift : GoodIn wsL_law (wsV RL 130 RX5 yX5_drift wsX5_drift) := goodIn_app (goodIn_of _ (by decide +kernel)) ggL_law_X5_drift
set_option maxRecDepth 20000 in
theorem ggL_law_X6_drift : GoodIn wsL_law wsX6_drift := goodIn_r _ [839, 591, 72, 840, 347, 105, 106, 5, 107, 620, 621, 622, 342, 343, 344, 345, 73, 346, 348, 349, 568, 569, 570, 571, 507, 508, 509, 510, 506, 362, 363, 364, 365, 366, 367, 368, 369, 354, 355, 356, 357, 511, 512, 513, 514, 515, 516, 517, 518, 519, 520, 521, 522, 523, 524, 525, 526, 527, 528, 529, 530, 531, 532, 533, 534, 535, 536, 537, 350, 351, 352, 353, 961, 962, 963, 964, 965, 966, 967, 968, 969, 970, 971, 972, 973, 974, 975, 976, 977, 978, 979, 980, 981, 982, 983, 984, 985, 986, 987, 988, 989, 990] (by decide +kernel) (by decide +kernel)
set_option maxRecDepth 20000 in
theorem gL_law_X6_drift : GoodIn wsL_law (wsV RL 133 RX6 yX6_drift wsX6_drift) := goodIn_app (goodIn_of _ (by decide +kernel)) ggL_law_X6_drift
set_option maxRecDepth 20000 in
theorem ggL_law_X5_keep : GoodIn wsL_law wsX5_keep := goodIn_r _ [844, 27, 121, 845, 19, 846, 25, 245, 246, 247, 18, 248, 135, 136, 137, 138, 139, 140, 46, 249, 250, 251, 252, 47, 48, 49, 50, 847, 848, 849, 24, 850, 751, 54, 851, 55, 56, 952, 953, 954, 955, 956, 957, 958, 959, 960, 1015, 1016, 1017, 999, 1000, 1001, 1002, 1003, 1004, 1005, 1006, 1007, 1008, 1009, 1010, 1011, 1012, 1013, 1014] (by decide +kernel) (by decide +kernel)
set_option maxRecDepth 20000 in
theorem gL_law_X5_keep : GoodIn wsL_law (wsV RL 134 RX5 yX5_keep wsX5_keep) := goodIn_app (goodIn_of _ (by decide +kernel)) ggL_law_X5_keep
set_option maxRecDepth 20000 in
theorem ggL_law_X6_keep : GoodIn wsL_law wsX6_keep := goodIn_r _ [855, 75, 105, 106, 5, 107, 370, 371, 372, 856, 857, 858, 859, 72, 961, 962, 963, 964, 965, 966, 967, 968, 969, 970, 971, 972, 973, 974, 975, 976, 977, 978, 979, 980, 981, 982, 983, 984, 985, 986, 987, 988, 989, 990] (by decide +kernel) (by decide +kernel)
set_option maxRecDepth 20000 in
theorem gL_law_X6_keep : GoodIn wsL_law (wsV RL 137 RX6 yX6_keep wsX6_keep) := goodIn_app (goodIn_of _ (by decide +kernel)) ggL_law_X6_keep
set_option maxRecDepth 20000 in
theorem ggL_law_X5_back : GoodIn wsL_law wsX5_back := goodIn_r _ [863, 27, 121, 19, 845, 25, 846, 318, 245, 246, 247, 18, 248, 135, 136, 137, 138, 139, 140, 46, 249, 250, 251, 252, 47, 48, 49, 50, 847, 848, 849, 24, 850, 751, 54, 851, 55, 56, 952, 953, 954, 955, 956, 957, 958, 959, 960, 1015, 1016, 1017, 999, 1000, 1001, 1002, 1003, 1004, 1005, 1006, 1007, 1008, 1009, 1010, 1011, 1012, 1013, 1014] (by decide +kernel) (by decide +kernel)
set_option maxRecDepth 20000 in
theorem gL_law_X5_back : GoodIn wsL_law (wsV RL 138 RX5 yX5_back wsX5_back) := goodIn_app (goodIn_of _ (by decide +kernel)) ggL_law_X5_back
set_option maxRecDepth 20000 in
theorem ggL_law_X6_back : GoodIn wsL_law wsX6_back := goodIn_r _ [867, 75, 72, 105, 106, 5, 107, 856, 857, 858, 859, 961, 962, 963, 964, 965, 966, 967, 968, 969, 970, 971, 972, 973, 974, 975, 976, 977, 978, 979, 980, 981, 982, 983, 984, 985, 986, 987, 988, 989, 990] (by decide +kernel) (by decide +kernel)
set_option maxRecDepth 20000 in
theorem gL_law_X6_back : GoodIn wsL_law (wsV RL 141 RX6 yX6_back wsX6_back) := goodIn_app (goodIn_of _ (by decide +kernel)) ggL_law_X6_back
set_option maxRecDepth 20000 in
theorem ggL_law_X5_sheet : GoodIn wsL_law wsX5_sheet := goodIn_r _ [871, 29, 872, 873, 2, 874, 875, 876, 877, 878, 879, 880, 37, 881, 882, 883, 884, 67, 952, 953, 954, 955, 956, 957, 958, 959, 960, 1018, 1019, 1020, 1021] (by decide +kernel) (by decide +kernel)
set_option maxRecDepth 20000 in
theorem gL_law_X5_sheet : GoodIn wsL_law (wsV RL 142 RX5 yX5_sheet wsX5_sheet) := goodIn_app (goodIn_of _ (by decide +kernel)) ggL_law_X5_sheet
set_option maxRecDepth 20000 in
theorem ggL_law_X6_sheet : GoodIn wsL_law wsX6_sheet := goodIn_r _ [888, 80, 81, 82, 889, 890, 5, 891, 389, 892, 105, 106, 107, 961, 962, 963, 964, 965, 966, 967, 968, 969, 970, 971, 972, 973, 974, 975, 976, 977, 978, 979, 980, 981, 982, 983, 984, 985, 986, 987, 988, 989, 990] (by decide +kernel) (by decide +kernel)
set_option maxRecDepth 20000 in
theorem gL_law_X6_sheet : GoodIn wsL_law (wsV RL 145 RX6 yX6_sheet wsX6_sheet) := goodIn_app (goodIn_of _ (by decide +kernel)) ggL_law_X6_sheet
set_option maxRecDepth 20000 in
theorem ggL_law_X5_lay : GoodIn wsL_law wsX5_lay := goodIn_r _ [896, 29, 897, 898, 899, 872, 873, 2, 874, 900, 901, 902, 37, 903, 883, 952, 953, 954, 955, 956, 957, 958, 959, 960, 1018, 1019, 1020, 1021] (by decide +kernel) (by decide +kernel)
set_option maxRecDepth 20000 in
theorem gL_law_X5_lay : GoodIn wsL_law (wsV RL 146 RX5 yX5_lay wsX5_lay) := goodIn_app (goodIn_of _ (by decide +kernel)) ggL_law_X5_lay
set_option maxRecDepth 20000 in
theorem ggL_law_X6_lay : GoodIn wsL_law wsX6_lay := goodIn_r _ [907, 80, 81, 82, 889, 890, 5, 891, 389, 892, 105, 106, 107, 961, 962, 963, 964, 965, 966, 967, 968, 969, 970, 971, 972, 973, 974, 975, 976, 977, 978, 979, 980, 981, 982, 983, 984, 985, 986, 987, 988, 989, 990] (by decide +kernel) (by decide +kernel)
set_option maxRecDepth 20000 in
theorem gL_law_X6_lay : GoodIn wsL_law (wsV RL 149 RX6 yX6_lay wsX6_lay) := goodIn_app (goodIn_of _ (by decide +kernel)) ggL_law_X6_lay
set_option maxRecDepth 20000 in
theorem ggL_law_X5_read : GoodIn wsL_law wsX5_read := goodIn_r _ [911, 29, 899, 19, 398, 33, 872, 873, 2, 874, 875, 876, 877, 912, 913, 914, 37, 915, 882, 883, 884, 916, 470, 471, 472, 399, 400, 401, 402, 317, 433, 434, 435, 917, 918, 919, 920, 952, 953, 954, 955, 956, 957, 958, 959, 960, 1018, 1019, 1020, 1021, 999, 1000, 1001, 1002, 1003, 1004, 1005, 1006, 1007, 1008, 1009, 1010] (by decide +kernel) (by decide +kernel)
set_option maxRecDepth 20000 in
theorem gL_law_X5_read : GoodIn wsL_law (wsV RL 150 RX5 yX5_read wsX5_read) := goodIn_app (goodIn_of _ (by decide +kernel)) ggL_law_X5_read
set_option maxRecDepth 20000 in
theorem ggL_law_X6_read : GoodIn wsL_law wsX6_read := goodIn_r _ [924, 925, 83, 72, 80, 81, 82, 926, 889, 890, 5, 891, 389, 892, 105, 106, 107, 927, 437, 438, 439, 407, 408, 409, 410, 440, 441, 442, 443, 425, 426, 427, 428, 961, 962, 963, 964, 965, 966, 967, 968, 969, 970, 971, 972, 973, 974, 975, 976, 977, 978, 979, 980, 981, 982, 983, 984, 985, 986, 987, 988, 989, 990] (by decide +kernel) (by decide +kernel)
set_option maxRecDepth 20000 in
theorem gL_law_X6_read : GoodIn wsL_law (wsV RL 154 RX6 yX6_read wsX6_read) := goodIn_app (goodIn_of _ (by decide +kernel)) ggL_law_X6_read
set_option maxRecDepth 20000 in
theorem ggL_law_X5_torn : GoodIn wsL_law wsX5_torn := goodIn_r _ [931, 33, 952, 953, 954, 955, 956, 957, 958, 959, 960] (by decide +kernel) (by decide +kernel)
set_option maxRecDepth 20000 in
theorem gL_law_X5_torn : GoodIn wsL_law (wsV RL 155 RX5 yX5_torn wsX5_torn) := goodIn_app (goodIn_of _ (by decide +kernel)) ggL_law_X5_torn
set_option maxRecDepth 20000 in
theorem ggL_law_X6_torn : GoodIn wsL_law wsX6_torn := goodIn_r _ [935, 926, 961, 962, 963, 964, 965, 966, 967, 968, 969, 970, 971, 972, 973, 974, 975, 976, 977, 978, 979, 980, 981, 982, 983, 984, 985, 986, 987, 988, 989, 990] (by decide +kernel) (by decide +kernel)
set_option maxRecDepth 20000 in
theorem gL_law_X6_torn : GoodIn wsL_law (wsV RL 158 RX6 yX6_torn wsX6_torn) := goodIn_app (goodIn_of _ (by decide +kernel)) ggL_law_X6_torn
set_option maxRecDepth 20000 in
theorem ggL_law_X5_count : GoodIn wsL_law wsX5_count := goodIn_r _ [939, 25, 120, 27, 121, 15, 97, 29, 897, 898, 19, 940, 941, 942, 18, 943, 135, 47, 944, 945, 946, 947, 136, 50, 952, 953, 954, 955, 956, 957, 958, 959, 960, 1011, 1012, 1013, 1014, 1015, 1016, 1017, 991, 992, 993, 994, 995, 996, 997, 998, 1018, 1019, 1020, 1021, 999, 1000, 1001, 1002, 1003, 1004, 1005, 1006, 1007, 1008, 1009, 1010] (by decide +kernel) (by decide +kernel)
set_option maxRecDepth 20000 in
theorem gL_law_X5_count : GoodIn wsL_law (wsV RL 159 RX5 yX5_count wsX5_count) := goodIn_app (goodIn_of _ (by decide +kernel)) ggL_law_X5_count
set_option maxRecDepth 20000 in
theorem ggL_law_X6_count : GoodIn wsL_law wsX6_count := goodIn_r _ [951, 72, 75, 104, 80, 81, 342, 343, 344, 5, 345, 73, 346, 347, 348, 349, 370, 371, 372, 350, 351, 352, 353, 354, 355, 356, 357, 961, 962, 963, 964, 965, 966, 967, 968, 969, 970, 971, 972, 973, 974, 975, 976, 977, 978, 979, 980, 981, 982, 983, 984, 985, 986, 987, 988, 989, 990] (by decide +kernel) (by decide +kernel)
set_option maxRecDepth 20000 in
theorem gL_law_X6_count : GoodIn wsL_law (wsV RL 162 RX6 yX6_count wsX6_count) := goodIn_app (goodIn_of _ (by decide +kernel)) ggL_law_X6_count
theorem dL_law_0 : decode cL_law 0 = .ok (.new 7, 3) := by decide +kernel
theorem dL_law_3 : decode cL_law 3 = .ok (.dup, 1) := by decide +kernel
theorem dL_law_4 : decode cL_law 4 = .ok (.invokespecial 9, 3) := by decide +kernel
theorem dL_law_7 : decode cL_law 7 = .ok (.astore_n 1, 1) := by decide +kernel
theorem dL_law_8 : decode cL_law 8 = .ok (.new 10, 3) := by decide +kernel
theorem dL_law_11 : decode cL_law 11 = .ok (.dup, 1) := by decide +kernel
theorem dL_law_12 : decode cL_law 12 = .ok (.invokespecial 12, 3) := by decide +kernel
theorem dL_law_15 : decode cL_law 15 = .ok (.astore_n 2, 1) := by decide +kernel
theorem dL_law_16 : decode cL_law 16 = .ok (.iconst 0, 1) := by decide +kernel
theorem dL_law_17 : decode cL_law 17 = .ok (.istore_n 3, 1) := by decide +kernel
theorem dL_law_18 : decode cL_law 18 = .ok (.iload_n 3, 1) := by decide +kernel
theorem dL_law_19 : decode cL_law 19 = .ok (.aload_n 0, 1) := by decide +kernel
theorem dL_law_20 : decode cL_law 20 = .ok (.arraylength, 1) := by decide +kernel
theorem dL_law_21 : decode cL_law 21 = .ok (.iconst 5, 1) := by decide +kernel
theorem dL_law_22 : decode cL_law 22 = .ok (.isub, 1) := by decide +kernel
theorem dL_law_23 : decode cL_law 23 = .ok (.if_icmp .gt 1255, 3) := by decide +kernel
theorem dL_law_26 : decode cL_law 26 = .ok (.aload_n 0, 1) := by decide +kernel
theorem dL_law_27 : decode cL_law 27 = .ok (.iload_n 3, 1) := by decide +kernel
theorem dL_law_28 : decode cL_law 28 = .ok (.iaload, 1) := by decide +kernel
theorem dL_law_29 : decode cL_law 29 = .ok (.bipush 63, 2) := by decide +kernel
theorem dL_law_31 : decode cL_law 31 = .ok (.iand, 1) := by decide +kernel
theorem dL_law_32 : decode cL_law 32 = .ok (.tableswitch 1240 0 35 #[160, 183, 206, 219, 232, 255, 288, 311, 354, 387, 410, 433, 456, 479, 512, 545, 558, 601, 644, 677, 710, 743, 787, 831, 874, 897, 920, 943, 976, 1019, 1042, 1065, 1108, 1151, 1204, 1217], 160) := by decide +kernel
theorem dL_law_192 : decode cL_law 192 = .ok (.aload_n 1, 1) := by decide +kernel
theorem dL_law_193 : decode cL_law 193 = .ok (.aload_n 0, 1) := by decide +kernel
theorem dL_law_194 : decode cL_law 194 = .ok (.iload_n 3, 1) := by decide +kernel
theorem dL_law_195 : decode cL_law 195 = .ok (.iconst 1, 1) := by decide +kernel
theorem dL_law_196 : decode cL_law 196 = .ok (.iadd, 1) := by decide +kernel
theorem dL_law_197 : decode cL_law 197 = .ok (.iaload, 1) := by decide +kernel
theorem dL_law_198 : decode cL_law 198 = .ok (.invokevirtual 13, 3) := by decide +kernel
theorem dL_law_201 : decode cL_law 201 = .ok (.aload_n 2, 1) := by decide +kernel
theorem dL_law_202 : decode cL_law 202 = .ok (.aload_n 0, 1) := by decide +kernel
theorem dL_law_203 : decode cL_law 203 = .ok (.iload_n 3, 1) := by decide +kernel
theorem dL_law_204 : decode cL_law 204 = .ok (.iconst 1, 1) := by decide +kernel
theorem dL_law_205 : decode cL_law 205 = .ok (.iadd, 1) := by decide +kernel
theorem dL_law_206 : decode cL_law 206 = .ok (.iaload, 1) := by decide +kernel
theorem dL_law_207 : decode cL_law 207 = .ok (.invokevirtual 17, 3) := by decide +kernel
theorem dL_law_210 : decode cL_law 210 = .ok (.if_icmp .eq 1062, 3) := by decide +kernel
theorem dL_law_213 : decode cL_law 213 = .ok (.iconst 0, 1) := by decide +kernel
theorem dL_law_214 : decode cL_law 214 = .ok (.ireturn, 1) := by decide +kernel
theorem dL_law_215 : decode cL_law 215 = .ok (.aload_n 1, 1) := by decide +kernel
theorem dL_law_216 : decode cL_law 216 = .ok (.aload_n 0, 1) := by decide +kernel
theorem dL_law_217 : decode cL_law 217 = .ok (.iload_n 3, 1) := by decide +kernel
theorem dL_law_218 : decode cL_law 218 = .ok (.iconst 1, 1) := by decide +kernel
theorem dL_law_219 : decode cL_law 219 = .ok (.iadd, 1) := by decide +kernel
theorem dL_law_220 : decode cL_law 220 = .ok (.iaload, 1) := by decide +kernel
theorem dL_law_221 : decode cL_law 221 = .ok (.invokevirtual 18, 3) := by decide +kernel
theorem dL_law_224 : decode cL_law 224 = .ok (.aload_n 2, 1) := by decide +kernel
theorem dL_law_225 : decode cL_law 225 = .ok (.aload_n 0, 1) := by decide +kernel
theorem dL_law_226 : decode cL_law 226 = .ok (.iload_n 3, 1) := by decide +kernel
theorem dL_law_227 : decode cL_law 227 = .ok (.iconst 1, 1) := by decide +kernel
theorem dL_law_228 : decode cL_law 228 = .ok (.iadd, 1) := by decide +kernel
theorem dL_law_229 : decode cL_law 229 = .ok (.iaload, 1) := by decide +kernel
theorem dL_law_230 : decode cL_law 230 = .ok (.invokevirtual 21, 3) := by decide +kernel
theorem dL_law_233 : decode cL_law 233 = .ok (.if_icmp .eq 1039, 3) := by decide +kernel
theorem dL_law_236 : decode cL_law 236 = .ok (.iconst 0, 1) := by decide +kernel
theorem dL_law_237 : decode cL_law 237 = .ok (.ireturn, 1) := by decide +kernel
theorem dL_law_238 : decode cL_law 238 = .ok (.aload_n 1, 1) := by decide +kernel
theorem dL_law_239 : decode cL_law 239 = .ok (.invokevirtual 22, 3) := by decide +kernel
theorem dL_law_242 : decode cL_law 242 = .ok (.aload_n 2, 1) := by decide +kernel
theorem dL_law_243 : decode cL_law 243 = .ok (.invokevirtual 26, 3) := by decide +kernel
theorem dL_law_246 : decode cL_law 246 = .ok (.if_icmp .eq 1026, 3) := by decide +kernel
theorem dL_law_249 : decode cL_law 249 = .ok (.iconst 0, 1) := by decide +kernel
theorem dL_law_250 : decode cL_law 250 = .ok (.ireturn, 1) := by decide +kernel
theorem dL_law_251 : decode cL_law 251 = .ok (.aload_n 1, 1) := by decide +kernel
theorem dL_law_252 : decode cL_law 252 = .ok (.invokevirtual 27, 3) := by decide +kernel
theorem dL_law_255 : decode cL_law 255 = .ok (.aload_n 2, 1) := by decide +kernel
theorem dL_law_256 : decode cL_law 256 = .ok (.invokevirtual 30, 3) := by decide +kernel
theorem dL_law_259 : decode cL_law 259 = .ok (.if_icmp .eq 1013, 3) := by decide +kernel
theorem dL_law_262 : decode cL_law 262 = .ok (.iconst 0, 1) := by decide +kernel
theorem dL_law_263 : decode cL_law 263 = .ok (.ireturn, 1) := by decide +kernel
theorem dL_law_264 : decode cL_law 264 = .ok (.aload_n 1, 1) := by decide +kernel
theorem dL_law_265 : decode cL_law 265 = .ok (.aload_n 0, 1) := by decide +kernel
theorem dL_law_266 : decode cL_law 266 = .ok (.iload_n 3, 1) := by decide +kernel
theorem dL_law_267 : decode cL_law 267 = .ok (.iconst 1, 1) := by decide +kernel
theorem dL_law_268 : decode cL_law 268 = .ok (.iadd, 1) := by decide +kernel
theorem dL_law_269 : decode cL_law 269 = .ok (.iaload, 1) := by decide +kernel
theorem dL_law_270 : decode cL_law 270 = .ok (.invokevirtual 31, 3) := by decide +kernel
theorem dL_law_273 : decode cL_law 273 = .ok (.aload_n 2, 1) := by decide +kernel
theorem dL_law_274 : decode cL_law 274 = .ok (.aload_n 0, 1) := by decide +kernel
theorem dL_law_275 : decode cL_law 275 = .ok (.iload_n 3, 1) := by decide +kernel
theorem dL_law_276 : decode cL_law 276 = .ok (.iconst 1, 1) := by decide +kernel
theorem dL_law_277 : decode cL_law 277 = .ok (.iadd, 1) := by decide +kernel
theorem dL_law_278 : decode cL_law 278 = .ok (.iaload, 1) := by decide +kernel
theorem dL_law_279 : decode cL_law 279 = .ok (.invokevirtual 34, 3) := by decide +kernel
theorem dL_law_282 : decode cL_law 282 = .ok (.if_icmp .eq 990, 3) := by decide +kernel
theorem dL_law_285 : decode cL_law 285 = .ok (.iconst 0, 1) := by decide +kernel
theorem dL_law_286 : decode cL_law 286 = .ok (.ireturn, 1) := by decide +kernel
theorem dL_law_287 : decode cL_law 287 = .ok (.aload_n 1, 1) := by decide +kernel
theorem dL_law_288 : decode cL_law 288 = .ok (.aload_n 0, 1) := by decide +kernel
theorem dL_law_289 : decode cL_law 289 = .ok (.iload_n 3, 1) := by decide +kernel
theorem dL_law_290 : decode cL_law 290 = .ok (.iconst 1, 1) := by decide +kernel
theorem dL_law_291 : decode cL_law 291 = .ok (.iadd, 1) := by decide +kernel
theorem dL_law_292 : decode cL_law 292 = .ok (.iaload, 1) := by decide +kernel
theorem dL_law_293 : decode cL_law 293 = .ok (.aload_n 0, 1) := by decide +kernel
theorem dL_law_294 : decode cL_law 294 = .ok (.iload_n 3, 1) := by decide +kernel
theorem dL_law_295 : decode cL_law 295 = .ok (.iconst 2, 1) := by decide +kernel
theorem dL_law_296 : decode cL_law 296 = .ok (.iadd, 1) := by decide +kernel
theorem dL_law_297 : decode cL_law 297 = .ok (.iaload, 1) := by decide +kernel
theorem dL_law_298 : decode cL_law 298 = .ok (.invokevirtual 35, 3) := by decide +kernel
theorem dL_law_301 : decode cL_law 301 = .ok (.aload_n 2, 1) := by decide +kernel
theorem dL_law_302 : decode cL_law 302 = .ok (.aload_n 0, 1) := by decide +kernel
theorem dL_law_303 : decode cL_law 303 = .ok (.iload_n 3, 1) := by decide +kernel
theorem dL_law_304 : decode cL_law 304 = .ok (.iconst 1, 1) := by decide +kernel
theorem dL_law_305 : decode cL_law 305 = .ok (.iadd, 1) := by decide +kernel
theorem dL_law_306 : decode cL_law 306 = .ok (.iaload, 1) := by decide +kernel
theorem dL_law_307 : decode cL_law 307 = .ok (.aload_n 0, 1) := by decide +kernel
theorem dL_law_308 : decode cL_law 308 = .ok (.iload_n 3, 1) := by decide +kernel
theorem dL_law_309 : decode cL_law 309 = .ok (.iconst 2, 1) := by decide +kernel
theorem dL_law_310 : decode cL_law 310 = .ok (.iadd, 1) := by decide +kernel
theorem dL_law_311 : decode cL_law 311 = .ok (.iaload, 1) := by decide +kernel
theorem dL_law_312 : decode cL_law 312 = .ok (.invokevirtual 39, 3) := by decide +kernel
theorem dL_law_315 : decode cL_law 315 = .ok (.if_icmp .eq 957, 3) := by decide +kernel
theorem dL_law_318 : decode cL_law 318 = .ok (.iconst 0, 1) := by decide +kernel
theorem dL_law_319 : decode cL_law 319 = .ok (.ireturn, 1) := by decide +kernel
theorem dL_law_320 : decode cL_law 320 = .ok (.aload_n 1, 1) := by decide +kernel
theorem dL_law_321 : decode cL_law 321 = .ok (.aload_n 0, 1) := by decide +kernel
theorem dL_law_322 : decode cL_law 322 = .ok (.iload_n 3, 1) := by decide +kernel
theorem dL_law_323 : decode cL_law 323 = .ok (.iconst 1, 1) := by decide +kernel
theorem dL_law_324 : decode cL_law 324 = .ok (.iadd, 1) := by decide +kernel
theorem dL_law_325 : decode cL_law 325 = .ok (.iaload, 1) := by decide +kernel
theorem dL_law_326 : decode cL_law 326 = .ok (.invokevirtual 40, 3) := by decide +kernel
theorem dL_law_329 : decode cL_law 329 = .ok (.aload_n 2, 1) := by decide +kernel
theorem dL_law_330 : decode cL_law 330 = .ok (.aload_n 0, 1) := by decide +kernel
theorem dL_law_331 : decode cL_law 331 = .ok (.iload_n 3, 1) := by decide +kernel
theorem dL_law_332 : decode cL_law 332 = .ok (.iconst 1, 1) := by decide +kernel
theorem dL_law_333 : decode cL_law 333 = .ok (.iadd, 1) := by decide +kernel
theorem dL_law_334 : decode cL_law 334 = .ok (.iaload, 1) := by decide +kernel
theorem dL_law_335 : decode cL_law 335 = .ok (.invokevirtual 43, 3) := by decide +kernel
theorem dL_law_338 : decode cL_law 338 = .ok (.if_icmp .eq 934, 3) := by decide +kernel
theorem dL_law_341 : decode cL_law 341 = .ok (.iconst 0, 1) := by decide +kernel
theorem dL_law_342 : decode cL_law 342 = .ok (.ireturn, 1) := by decide +kernel
theorem dL_law_343 : decode cL_law 343 = .ok (.aload_n 1, 1) := by decide +kernel
theorem dL_law_344 : decode cL_law 344 = .ok (.aload_n 0, 1) := by decide +kernel
theorem dL_law_345 : decode cL_law 345 = .ok (.iload_n 3, 1) := by decide +kernel
theorem dL_law_346 : decode cL_law 346 = .ok (.iconst 1, 1) := by decide +kernel
theorem dL_law_347 : decode cL_law 347 = .ok (.iadd, 1) := by decide +kernel
theorem dL_law_348 : decode cL_law 348 = .ok (.iaload, 1) := by decide +kernel
theorem dL_law_349 : decode cL_law 349 = .ok (.aload_n 0, 1) := by decide +kernel
theorem dL_law_350 : decode cL_law 350 = .ok (.iload_n 3, 1) := by decide +kernel
theorem dL_law_351 : decode cL_law 351 = .ok (.iconst 2, 1) := by decide +kernel
theorem dL_law_352 : decode cL_law 352 = .ok (.iadd, 1) := by decide +kernel
theorem dL_law_353 : decode cL_law 353 = .ok (.iaload, 1) := by decide +kernel
theorem dL_law_354 : decode cL_law 354 = .ok (.aload_n 0, 1) := by decide +kernel
theorem dL_law_355 : decode cL_law 355 = .ok (.iload_n 3, 1) := by decide +kernel
theorem dL_law_356 : decode cL_law 356 = .ok (.iconst 3, 1) := by decide +kernel
theorem dL_law_357 : decode cL_law 357 = .ok (.iadd, 1) := by decide +kernel
theorem dL_law_358 : decode cL_law 358 = .ok (.iaload, 1) := by decide +kernel
theorem dL_law_359 : decode cL_law 359 = .ok (.invokevirtual 44, 3) := by decide +kernel
theorem dL_law_362 : decode cL_law 362 = .ok (.aload_n 2, 1) := by decide +kernel
theorem dL_law_363 : decode cL_law 363 = .ok (.aload_n 0, 1) := by decide +kernel
theorem dL_law_364 : decode cL_law 364 = .ok (.iload_n 3, 1) := by decide +kernel
theorem dL_law_365 : decode cL_law 365 = .ok (.iconst 1, 1) := by decide +kernel
theorem dL_law_366 : decode cL_law 366 = .ok (.iadd, 1) := by decide +kernel
theorem dL_law_367 : decode cL_law 367 = .ok (.iaload, 1) := by decide +kernel
theorem dL_law_368 : decode cL_law 368 = .ok (.aload_n 0, 1) := by decide +kernel
theorem dL_law_369 : decode cL_law 369 = .ok (.iload_n 3, 1) := by decide +kernel
theorem dL_law_370 : decode cL_law 370 = .ok (.iconst 2, 1) := by decide +kernel
theorem dL_law_371 : decode cL_law 371 = .ok (.iadd, 1) := by decide +kernel
theorem dL_law_372 : decode cL_law 372 = .ok (.iaload, 1) := by decide +kernel
theorem dL_law_373 : decode cL_law 373 = .ok (.aload_n 0, 1) := by decide +kernel
theorem dL_law_374 : decode cL_law 374 = .ok (.iload_n 3, 1) := by decide +kernel
theorem dL_law_375 : decode cL_law 375 = .ok (.iconst 3, 1) := by decide +kernel
theorem dL_law_376 : decode cL_law 376 = .ok (.iadd, 1) := by decide +kernel
theorem dL_law_377 : decode cL_law 377 = .ok (.iaload, 1) := by decide +kernel
theorem dL_law_378 : decode cL_law 378 = .ok (.invokevirtual 48, 3) := by decide +kernel
theorem dL_law_381 : decode cL_law 381 = .ok (.if_icmp .eq 891, 3) := by decide +kernel
theorem dL_law_384 : decode cL_law 384 = .ok (.iconst 0, 1) := by decide +kernel
theorem dL_law_385 : decode cL_law 385 = .ok (.ireturn, 1) := by decide +kernel
theorem dL_law_386 : decode cL_law 386 = .ok (.aload_n 1, 1) := by decide +kernel
theorem dL_law_387 : decode cL_law 387 = .ok (.aload_n 0, 1) := by decide +kernel
theorem dL_law_388 : decode cL_law 388 = .ok (.iload_n 3, 1) := by decide +kernel
theorem dL_law_389 : decode cL_law 389 = .ok (.iconst 1, 1) := by decide +kernel
theorem dL_law_390 : decode cL_law 390 = .ok (.iadd, 1) := by decide +kernel
theorem dL_law_391 : decode cL_law 391 = .ok (.iaload, 1) := by decide +kernel
theorem dL_law_392 : decode cL_law 392 = .ok (.aload_n 0, 1) := by decide +kernel
theorem dL_law_393 : decode cL_law 393 = .ok (.iload_n 3, 1) := by decide +kernel
theorem dL_law_394 : decode cL_law 394 = .ok (.iconst 2, 1) := by decide +kernel
theorem dL_law_395 : decode cL_law 395 = .ok (.iadd, 1) := by decide +kernel
theorem dL_law_396 : decode cL_law 396 = .ok (.iaload, 1) := by decide +kernel
theorem dL_law_397 : decode cL_law 397 = .ok (.invokevirtual 49, 3) := by decide +kernel
theorem dL_law_400 : decode cL_law 400 = .ok (.aload_n 2, 1) := by decide +kernel
theorem dL_law_401 : decode cL_law 401 = .ok (.aload_n 0, 1) := by decide +kernel
theorem dL_law_402 : decode cL_law 402 = .ok (.iload_n 3, 1) := by decide +kernel
theorem dL_law_403 : decode cL_law 403 = .ok (.iconst 1, 1) := by decide +kernel
theorem dL_law_404 : decode cL_law 404 = .ok (.iadd, 1) := by decide +kernel
theorem dL_law_405 : decode cL_law 405 = .ok (.iaload, 1) := by decide +kernel
theorem dL_law_406 : decode cL_law 406 = .ok (.aload_n 0, 1) := by decide +kernel
theorem dL_law_407 : decode cL_law 407 = .ok (.iload_n 3, 1) := by decide +kernel
theorem dL_law_408 : decode cL_law 408 = .ok (.iconst 2, 1) := by decide +kernel
theorem dL_law_409 : decode cL_law 409 = .ok (.iadd, 1) := by decide +kernel
theorem dL_law_410 : decode cL_law 410 = .ok (.iaload, 1) := by decide +kernel
theorem dL_law_411 : decode cL_law 411 = .ok (.invokevirtual 52, 3) := by decide +kernel
theorem dL_law_414 : decode cL_law 414 = .ok (.if_icmp .eq 858, 3) := by decide +kernel
theorem dL_law_417 : decode cL_law 417 = .ok (.iconst 0, 1) := by decide +kernel
theorem dL_law_418 : decode cL_law 418 = .ok (.ireturn, 1) := by decide +kernel
theorem dL_law_419 : decode cL_law 419 = .ok (.aload_n 1, 1) := by decide +kernel
theorem dL_law_420 : decode cL_law 420 = .ok (.aload_n 0, 1) := by decide +kernel
theorem dL_law_421 : decode cL_law 421 = .ok (.iload_n 3, 1) := by decide +kernel
theorem dL_law_422 : decode cL_law 422 = .ok (.iconst 1, 1) := by decide +kernel
theorem dL_law_423 : decode cL_law 423 = .ok (.iadd, 1) := by decide +kernel
theorem dL_law_424 : decode cL_law 424 = .ok (.iaload, 1) := by decide +kernel
theorem dL_law_425 : decode cL_law 425 = .ok (.invokevirtual 53, 3) := by decide +kernel
theorem dL_law_428 : decode cL_law 428 = .ok (.aload_n 2, 1) := by decide +kernel
theorem dL_law_429 : decode cL_law 429 = .ok (.aload_n 0, 1) := by decide +kernel
theorem dL_law_430 : decode cL_law 430 = .ok (.iload_n 3, 1) := by decide +kernel
theorem dL_law_431 : decode cL_law 431 = .ok (.iconst 1, 1) := by decide +kernel
theorem dL_law_432 : decode cL_law 432 = .ok (.iadd, 1) := by decide +kernel
theorem dL_law_433 : decode cL_law 433 = .ok (.iaload, 1) := by decide +kernel
theorem dL_law_434 : decode cL_law 434 = .ok (.invokevirtual 56, 3) := by decide +kernel
theorem dL_law_437 : decode cL_law 437 = .ok (.if_icmp .eq 835, 3) := by decide +kernel
theorem dL_law_440 : decode cL_law 440 = .ok (.iconst 0, 1) := by decide +kernel
theorem dL_law_441 : decode cL_law 441 = .ok (.ireturn, 1) := by decide +kernel
theorem dL_law_442 : decode cL_law 442 = .ok (.aload_n 1, 1) := by decide +kernel
theorem dL_law_443 : decode cL_law 443 = .ok (.aload_n 0, 1) := by decide +kernel
theorem dL_law_444 : decode cL_law 444 = .ok (.iload_n 3, 1) := by decide +kernel
theorem dL_law_445 : decode cL_law 445 = .ok (.iconst 1, 1) := by decide +kernel
theorem dL_law_446 : decode cL_law 446 = .ok (.iadd, 1) := by decide +kernel
theorem dL_law_447 : decode cL_law 447 = .ok (.iaload, 1) := by decide +kernel
theorem dL_law_448 : decode cL_law 448 = .ok (.invokevirtual 57, 3) := by decide +kernel
theorem dL_law_451 : decode cL_law 451 = .ok (.aload_n 2, 1) := by decide +kernel
theorem dL_law_452 : decode cL_law 452 = .ok (.aload_n 0, 1) := by decide +kernel
theorem dL_law_453 : decode cL_law 453 = .ok (.iload_n 3, 1) := by decide +kernel
theorem dL_law_454 : decode cL_law 454 = .ok (.iconst 1, 1) := by decide +kernel
theorem dL_law_455 : decode cL_law 455 = .ok (.iadd, 1) := by decide +kernel
theorem dL_law_456 : decode cL_law 456 = .ok (.iaload, 1) := by decide +kernel
theorem dL_law_457 : decode cL_law 457 = .ok (.invokevirtual 60, 3) := by decide +kernel
theorem dL_law_460 : decode cL_law 460 = .ok (.if_icmp .eq 812, 3) := by decide +kernel
theorem dL_law_463 : decode cL_law 463 = .ok (.iconst 0, 1) := by decide +kernel
theorem dL_law_464 : decode cL_law 464 = .ok (.ireturn, 1) := by decide +kernel
theorem dL_law_465 : decode cL_law 465 = .ok (.aload_n 1, 1) := by decide +kernel
theorem dL_law_466 : decode cL_law 466 = .ok (.aload_n 0, 1) := by decide +kernel
theorem dL_law_467 : decode cL_law 467 = .ok (.iload_n 3, 1) := by decide +kernel
theorem dL_law_468 : decode cL_law 468 = .ok (.iconst 1, 1) := by decide +kernel
theorem dL_law_469 : decode cL_law 469 = .ok (.iadd, 1) := by decide +kernel
theorem dL_law_470 : decode cL_law 470 = .ok (.iaload, 1) := by decide +kernel
theorem dL_law_471 : decode cL_law 471 = .ok (.invokevirtual 61, 3) := by decide +kernel
theorem dL_law_474 : decode cL_law 474 = .ok (.aload_n 2, 1) := by decide +kernel
theorem dL_law_475 : decode cL_law 475 = .ok (.aload_n 0, 1) := by decide +kernel
theorem dL_law_476 : decode cL_law 476 = .ok (.iload_n 3, 1) := by decide +kernel
theorem dL_law_477 : decode cL_law 477 = .ok (.iconst 1, 1) := by decide +kernel
theorem dL_law_478 : decode cL_law 478 = .ok (.iadd, 1) := by decide +kernel
theorem dL_law_479 : decode cL_law 479 = .ok (.iaload, 1) := by decide +kernel
theorem dL_law_480 : decode cL_law 480 = .ok (.invokevirtual 64, 3) := by decide +kernel
theorem dL_law_483 : decode cL_law 483 = .ok (.if_icmp .eq 789, 3) := by decide +kernel
theorem dL_law_486 : decode cL_law 486 = .ok (.iconst 0, 1) := by decide +kernel
theorem dL_law_487 : decode cL_law 487 = .ok (.ireturn, 1) := by decide +kernel
theorem dL_law_488 : decode cL_law 488 = .ok (.aload_n 1, 1) := by decide +kernel
theorem dL_law_489 : decode cL_law 489 = .ok (.aload_n 0, 1) := by decide +kernel
theorem dL_law_490 : decode cL_law 490 = .ok (.iload_n 3, 1) := by decide +kernel
theorem dL_law_491 : decode cL_law 491 = .ok (.iconst 1, 1) := by decide +kernel
theorem dL_law_492 : decode cL_law 492 = .ok (.iadd, 1) := by decide +kernel
theorem dL_law_493 : decode cL_law 493 = .ok (.iaload, 1) := by decide +kernel
theorem dL_law_494 : decode cL_law 494 = .ok (.invokevirtual 65, 3) := by decide +kernel
theorem dL_law_497 : decode cL_law 497 = .ok (.aload_n 2, 1) := by decide +kernel
theorem dL_law_498 : decode cL_law 498 = .ok (.aload_n 0, 1) := by decide +kernel
theorem dL_law_499 : decode cL_law 499 = .ok (.iload_n 3, 1) := by decide +kernel
theorem dL_law_500 : decode cL_law 500 = .ok (.iconst 1, 1) := by decide +kernel
theorem dL_law_501 : decode cL_law 501 = .ok (.iadd, 1) := by decide +kernel
theorem dL_law_502 : decode cL_law 502 = .ok (.iaload, 1) := by decide +kernel
theorem dL_law_503 : decode cL_law 503 = .ok (.invokevirtual 68, 3) := by decide +kernel
theorem dL_law_506 : decode cL_law 506 = .ok (.if_icmp .eq 766, 3) := by decide +kernel
theorem dL_law_509 : decode cL_law 509 = .ok (.iconst 0, 1) := by decide +kernel
theorem dL_law_510 : decode cL_law 510 = .ok (.ireturn, 1) := by decide +kernel
theorem dL_law_511 : decode cL_law 511 = .ok (.aload_n 1, 1) := by decide +kernel
theorem dL_law_512 : decode cL_law 512 = .ok (.aload_n 0, 1) := by decide +kernel
theorem dL_law_513 : decode cL_law 513 = .ok (.iload_n 3, 1) := by decide +kernel
theorem dL_law_514 : decode cL_law 514 = .ok (.iconst 1, 1) := by decide +kernel
theorem dL_law_515 : decode cL_law 515 = .ok (.iadd, 1) := by decide +kernel
theorem dL_law_516 : decode cL_law 516 = .ok (.iaload, 1) := by decide +kernel
theorem dL_law_517 : decode cL_law 517 = .ok (.aload_n 0, 1) := by decide +kernel
theorem dL_law_518 : decode cL_law 518 = .ok (.iload_n 3, 1) := by decide +kernel
theorem dL_law_519 : decode cL_law 519 = .ok (.iconst 2, 1) := by decide +kernel
theorem dL_law_520 : decode cL_law 520 = .ok (.iadd, 1) := by decide +kernel
theorem dL_law_521 : decode cL_law 521 = .ok (.iaload, 1) := by decide +kernel
theorem dL_law_522 : decode cL_law 522 = .ok (.invokevirtual 69, 3) := by decide +kernel
theorem dL_law_525 : decode cL_law 525 = .ok (.aload_n 2, 1) := by decide +kernel
theorem dL_law_526 : decode cL_law 526 = .ok (.aload_n 0, 1) := by decide +kernel
theorem dL_law_527 : decode cL_law 527 = .ok (.iload_n 3, 1) := by decide +kernel
theorem dL_law_528 : decode cL_law 528 = .ok (.iconst 1, 1) := by decide +kernel
theorem dL_law_529 : decode cL_law 529 = .ok (.iadd, 1) := by decide +kernel
theorem dL_law_530 : decode cL_law 530 = .ok (.iaload, 1) := by decide +kernel
theorem dL_law_531 : decode cL_law 531 = .ok (.aload_n 0, 1) := by decide +kernel
theorem dL_law_532 : decode cL_law 532 = .ok (.iload_n 3, 1) := by decide +kernel
theorem dL_law_533 : decode cL_law 533 = .ok (.iconst 2, 1) := by decide +kernel
theorem dL_law_534 : decode cL_law 534 = .ok (.iadd, 1) := by decide +kernel
theorem dL_law_535 : decode cL_law 535 = .ok (.iaload, 1) := by decide +kernel
theorem dL_law_536 : decode cL_law 536 = .ok (.invokevirtual 72, 3) := by decide +kernel
theorem dL_law_539 : decode cL_law 539 = .ok (.if_icmp .eq 733, 3) := by decide +kernel
theorem dL_law_542 : decode cL_law 542 = .ok (.iconst 0, 1) := by decide +kernel
theorem dL_law_543 : decode cL_law 543 = .ok (.ireturn, 1) := by decide +kernel
theorem dL_law_544 : decode cL_law 544 = .ok (.aload_n 1, 1) := by decide +kernel
theorem dL_law_545 : decode cL_law 545 = .ok (.aload_n 0, 1) := by decide +kernel
theorem dL_law_546 : decode cL_law 546 = .ok (.iload_n 3, 1) := by decide +kernel
theorem dL_law_547 : decode cL_law 547 = .ok (.iconst 1, 1) := by decide +kernel
theorem dL_law_548 : decode cL_law 548 = .ok (.iadd, 1) := by decide +kernel
theorem dL_law_549 : decode cL_law 549 = .ok (.iaload, 1) := by decide +kernel
theorem dL_law_550 : decode cL_law 550 = .ok (.aload_n 0, 1) := by decide +kernel
theorem dL_law_551 : decode cL_law 551 = .ok (.iload_n 3, 1) := by decide +kernel
theorem dL_law_552 : decode cL_law 552 = .ok (.iconst 2, 1) := by decide +kernel
theorem dL_law_553 : decode cL_law 553 = .ok (.iadd, 1) := by decide +kernel
theorem dL_law_554 : decode cL_law 554 = .ok (.iaload, 1) := by decide +kernel
theorem dL_law_555 : decode cL_law 555 = .ok (.invokevirtual 73, 3) := by decide +kernel
theorem dL_law_558 : decode cL_law 558 = .ok (.aload_n 2, 1) := by decide +kernel
theorem dL_law_559 : decode cL_law 559 = .ok (.aload_n 0, 1) := by decide +kernel
theorem dL_law_560 : decode cL_law 560 = .ok (.iload_n 3, 1) := by decide +kernel
theorem dL_law_561 : decode cL_law 561 = .ok (.iconst 1, 1) := by decide +kernel
theorem dL_law_562 : decode cL_law 562 = .ok (.iadd, 1) := by decide +kernel
theorem dL_law_563 : decode cL_law 563 = .ok (.iaload, 1) := by decide +kernel
theorem dL_law_564 : decode cL_law 564 = .ok (.aload_n 0, 1) := by decide +kernel
theorem dL_law_565 : decode cL_law 565 = .ok (.iload_n 3, 1) := by decide +kernel
theorem dL_law_566 : decode cL_law 566 = .ok (.iconst 2, 1) := by decide +kernel
theorem dL_law_567 : decode cL_law 567 = .ok (.iadd, 1) := by decide +kernel
theorem dL_law_568 : decode cL_law 568 = .ok (.iaload, 1) := by decide +kernel
theorem dL_law_569 : decode cL_law 569 = .ok (.invokevirtual 76, 3) := by decide +kernel
theorem dL_law_572 : decode cL_law 572 = .ok (.if_icmp .eq 700, 3) := by decide +kernel
theorem dL_law_575 : decode cL_law 575 = .ok (.iconst 0, 1) := by decide +kernel
theorem dL_law_576 : decode cL_law 576 = .ok (.ireturn, 1) := by decide +kernel
theorem dL_law_577 : decode cL_law 577 = .ok (.aload_n 1, 1) := by decide +kernel
theorem dL_law_578 : decode cL_law 578 = .ok (.invokevirtual 77, 3) := by decide +kernel
theorem dL_law_581 : decode cL_law 581 = .ok (.aload_n 2, 1) := by decide +kernel
theorem dL_law_582 : decode cL_law 582 = .ok (.invokevirtual 80, 3) := by decide +kernel
theorem dL_law_585 : decode cL_law 585 = .ok (.if_icmp .eq 687, 3) := by decide +kernel
theorem dL_law_588 : decode cL_law 588 = .ok (.iconst 0, 1) := by decide +kernel
theorem dL_law_589 : decode cL_law 589 = .ok (.ireturn, 1) := by decide +kernel
theorem dL_law_590 : decode cL_law 590 = .ok (.aload_n 1, 1) := by decide +kernel
theorem dL_law_591 : decode cL_law 591 = .ok (.aload_n 0, 1) := by decide +kernel
theorem dL_law_592 : decode cL_law 592 = .ok (.iload_n 3, 1) := by decide +kernel
theorem dL_law_593 : decode cL_law 593 = .ok (.iconst 1, 1) := by decide +kernel
theorem dL_law_594 : decode cL_law 594 = .ok (.iadd, 1) := by decide +kernel
theorem dL_law_595 : decode cL_law 595 = .ok (.iaload, 1) := by decide +kernel
theorem dL_law_596 : decode cL_law 596 = .ok (.aload_n 0, 1) := by decide +kernel
theorem dL_law_597 : decode cL_law 597 = .ok (.iload_n 3, 1) := by decide +kernel
theorem dL_law_598 : decode cL_law 598 = .ok (.iconst 2, 1) := by decide +kernel
theorem dL_law_599 : decode cL_law 599 = .ok (.iadd, 1) := by decide +kernel
theorem dL_law_600 : decode cL_law 600 = .ok (.iaload, 1) := by decide +kernel
theorem dL_law_601 : decode cL_law 601 = .ok (.aload_n 0, 1) := by decide +kernel
theorem dL_law_602 : decode cL_law 602 = .ok (.iload_n 3, 1) := by decide +kernel
theorem dL_law_603 : decode cL_law 603 = .ok (.iconst 3, 1) := by decide +kernel
theorem dL_law_604 : decode cL_law 604 = .ok (.iadd, 1) := by decide +kernel
theorem dL_law_605 : decode cL_law 605 = .ok (.iaload, 1) := by decide +kernel
theorem dL_law_606 : decode cL_law 606 = .ok (.invokevirtual 81, 3) := by decide +kernel
theorem dL_law_609 : decode cL_law 609 = .ok (.aload_n 2, 1) := by decide +kernel
theorem dL_law_610 : decode cL_law 610 = .ok (.aload_n 0, 1) := by decide +kernel
theorem dL_law_611 : decode cL_law 611 = .ok (.iload_n 3, 1) := by decide +kernel
theorem dL_law_612 : decode cL_law 612 = .ok (.iconst 1, 1) := by decide +kernel
theorem dL_law_613 : decode cL_law 613 = .ok (.iadd, 1) := by decide +kernel
theorem dL_law_614 : decode cL_law 614 = .ok (.iaload, 1) := by decide +kernel
theorem dL_law_615 : decode cL_law 615 = .ok (.aload_n 0, 1) := by decide +kernel
theorem dL_law_616 : decode cL_law 616 = .ok (.iload_n 3, 1) := by decide +kernel
theorem dL_law_617 : decode cL_law 617 = .ok (.iconst 2, 1) := by decide +kernel
theorem dL_law_618 : decode cL_law 618 = .ok (.iadd, 1) := by decide +kernel
theorem dL_law_619 : decode cL_law 619 = .ok (.iaload, 1) := by decide +kernel
theorem dL_law_620 : decode cL_law 620 = .ok (.aload_n 0, 1) := by decide +kernel
theorem dL_law_621 : decode cL_law 621 = .ok (.iload_n 3, 1) := by decide +kernel
theorem dL_law_622 : decode cL_law 622 = .ok (.iconst 3, 1) := by decide +kernel
theorem dL_law_623 : decode cL_law 623 = .ok (.iadd, 1) := by decide +kernel
theorem dL_law_624 : decode cL_law 624 = .ok (.iaload, 1) := by decide +kernel
theorem dL_law_625 : decode cL_law 625 = .ok (.invokevirtual 84, 3) := by decide +kernel
theorem dL_law_628 : decode cL_law 628 = .ok (.if_icmp .eq 644, 3) := by decide +kernel
theorem dL_law_631 : decode cL_law 631 = .ok (.iconst 0, 1) := by decide +kernel
theorem dL_law_632 : decode cL_law 632 = .ok (.ireturn, 1) := by decide +kernel
theorem dL_law_633 : decode cL_law 633 = .ok (.aload_n 1, 1) := by decide +kernel
theorem dL_law_634 : decode cL_law 634 = .ok (.aload_n 0, 1) := by decide +kernel
theorem dL_law_635 : decode cL_law 635 = .ok (.iload_n 3, 1) := by decide +kernel
theorem dL_law_636 : decode cL_law 636 = .ok (.iconst 1, 1) := by decide +kernel
theorem dL_law_637 : decode cL_law 637 = .ok (.iadd, 1) := by decide +kernel
theorem dL_law_638 : decode cL_law 638 = .ok (.iaload, 1) := by decide +kernel
theorem dL_law_639 : decode cL_law 639 = .ok (.aload_n 0, 1) := by decide +kernel
theorem dL_law_640 : decode cL_law 640 = .ok (.iload_n 3, 1) := by decide +kernel
theorem dL_law_641 : decode cL_law 641 = .ok (.iconst 2, 1) := by decide +kernel
theorem dL_law_642 : decode cL_law 642 = .ok (.iadd, 1) := by decide +kernel
theorem dL_law_643 : decode cL_law 643 = .ok (.iaload, 1) := by decide +kernel
theorem dL_law_644 : decode cL_law 644 = .ok (.aload_n 0, 1) := by decide +kernel
theorem dL_law_645 : decode cL_law 645 = .ok (.iload_n 3, 1) := by decide +kernel
theorem dL_law_646 : decode cL_law 646 = .ok (.iconst 3, 1) := by decide +kernel
theorem dL_law_647 : decode cL_law 647 = .ok (.iadd, 1) := by decide +kernel
theorem dL_law_648 : decode cL_law 648 = .ok (.iaload, 1) := by decide +kernel
theorem dL_law_649 : decode cL_law 649 = .ok (.invokevirtual 85, 3) := by decide +kernel
theorem dL_law_652 : decode cL_law 652 = .ok (.aload_n 2, 1) := by decide +kernel
theorem dL_law_653 : decode cL_law 653 = .ok (.aload_n 0, 1) := by decide +kernel
theorem dL_law_654 : decode cL_law 654 = .ok (.iload_n 3, 1) := by decide +kernel
theorem dL_law_655 : decode cL_law 655 = .ok (.iconst 1, 1) := by decide +kernel
theorem dL_law_656 : decode cL_law 656 = .ok (.iadd, 1) := by decide +kernel
theorem dL_law_657 : decode cL_law 657 = .ok (.iaload, 1) := by decide +kernel
theorem dL_law_658 : decode cL_law 658 = .ok (.aload_n 0, 1) := by decide +kernel
theorem dL_law_659 : decode cL_law 659 = .ok (.iload_n 3, 1) := by decide +kernel
theorem dL_law_660 : decode cL_law 660 = .ok (.iconst 2, 1) := by decide +kernel
theorem dL_law_661 : decode cL_law 661 = .ok (.iadd, 1) := by decide +kernel
theorem dL_law_662 : decode cL_law 662 = .ok (.iaload, 1) := by decide +kernel
theorem dL_law_663 : decode cL_law 663 = .ok (.aload_n 0, 1) := by decide +kernel
theorem dL_law_664 : decode cL_law 664 = .ok (.iload_n 3, 1) := by decide +kernel
theorem dL_law_665 : decode cL_law 665 = .ok (.iconst 3, 1) := by decide +kernel
theorem dL_law_666 : decode cL_law 666 = .ok (.iadd, 1) := by decide +kernel
theorem dL_law_667 : decode cL_law 667 = .ok (.iaload, 1) := by decide +kernel
theorem dL_law_668 : decode cL_law 668 = .ok (.invokevirtual 88, 3) := by decide +kernel
theorem dL_law_671 : decode cL_law 671 = .ok (.if_icmp .eq 601, 3) := by decide +kernel
theorem dL_law_674 : decode cL_law 674 = .ok (.iconst 0, 1) := by decide +kernel
theorem dL_law_675 : decode cL_law 675 = .ok (.ireturn, 1) := by decide +kernel
theorem dL_law_676 : decode cL_law 676 = .ok (.aload_n 1, 1) := by decide +kernel
theorem dL_law_677 : decode cL_law 677 = .ok (.aload_n 0, 1) := by decide +kernel
theorem dL_law_678 : decode cL_law 678 = .ok (.iload_n 3, 1) := by decide +kernel
theorem dL_law_679 : decode cL_law 679 = .ok (.iconst 1, 1) := by decide +kernel
theorem dL_law_680 : decode cL_law 680 = .ok (.iadd, 1) := by decide +kernel
theorem dL_law_681 : decode cL_law 681 = .ok (.iaload, 1) := by decide +kernel
theorem dL_law_682 : decode cL_law 682 = .ok (.aload_n 0, 1) := by decide +kernel
theorem dL_law_683 : decode cL_law 683 = .ok (.iload_n 3, 1) := by decide +kernel
theorem dL_law_684 : decode cL_law 684 = .ok (.iconst 2, 1) := by decide +kernel
theorem dL_law_685 : decode cL_law 685 = .ok (.iadd, 1) := by decide +kernel
theorem dL_law_686 : decode cL_law 686 = .ok (.iaload, 1) := by decide +kernel
theorem dL_law_687 : decode cL_law 687 = .ok (.invokevirtual 89, 3) := by decide +kernel
theorem dL_law_690 : decode cL_law 690 = .ok (.aload_n 2, 1) := by decide +kernel
theorem dL_law_691 : decode cL_law 691 = .ok (.aload_n 0, 1) := by decide +kernel
theorem dL_law_692 : decode cL_law 692 = .ok (.iload_n 3, 1) := by decide +kernel
theorem dL_law_693 : decode cL_law 693 = .ok (.iconst 1, 1) := by decide +kernel
theorem dL_law_694 : decode cL_law 694 = .ok (.iadd, 1) := by decide +kernel
theorem dL_law_695 : decode cL_law 695 = .ok (.iaload, 1) := by decide +kernel
theorem dL_law_696 : decode cL_law 696 = .ok (.aload_n 0, 1) := by decide +kernel
theorem dL_law_697 : decode cL_law 697 = .ok (.iload_n 3, 1) := by decide +kernel
theorem dL_law_698 : decode cL_law 698 = .ok (.iconst 2, 1) := by decide +kernel
theorem dL_law_699 : decode cL_law 699 = .ok (.iadd, 1) := by decide +kernel
theorem dL_law_700 : decode cL_law 700 = .ok (.iaload, 1) := by decide +kernel
theorem dL_law_701 : decode cL_law 701 = .ok (.invokevirtual 92, 3) := by decide +kernel
theorem dL_law_704 : decode cL_law 704 = .ok (.if_icmp .eq 568, 3) := by decide +kernel
theorem dL_law_707 : decode cL_law 707 = .ok (.iconst 0, 1) := by decide +kernel
theorem dL_law_708 : decode cL_law 708 = .ok (.ireturn, 1) := by decide +kernel
theorem dL_law_709 : decode cL_law 709 = .ok (.aload_n 1, 1) := by decide +kernel
theorem dL_law_710 : decode cL_law 710 = .ok (.aload_n 0, 1) := by decide +kernel
theorem dL_law_711 : decode cL_law 711 = .ok (.iload_n 3, 1) := by decide +kernel
theorem dL_law_712 : decode cL_law 712 = .ok (.iconst 1, 1) := by decide +kernel
theorem dL_law_713 : decode cL_law 713 = .ok (.iadd, 1) := by decide +kernel
theorem dL_law_714 : decode cL_law 714 = .ok (.iaload, 1) := by decide +kernel
theorem dL_law_715 : decode cL_law 715 = .ok (.aload_n 0, 1) := by decide +kernel
theorem dL_law_716 : decode cL_law 716 = .ok (.iload_n 3, 1) := by decide +kernel
theorem dL_law_717 : decode cL_law 717 = .ok (.iconst 2, 1) := by decide +kernel
theorem dL_law_718 : decode cL_law 718 = .ok (.iadd, 1) := by decide +kernel
theorem dL_law_719 : decode cL_law 719 = .ok (.iaload, 1) := by decide +kernel
theorem dL_law_720 : decode cL_law 720 = .ok (.invokevirtual 93, 3) := by decide +kernel
theorem dL_law_723 : decode cL_law 723 = .ok (.aload_n 2, 1) := by decide +kernel
theorem dL_law_724 : decode cL_law 724 = .ok (.aload_n 0, 1) := by decide +kernel
theorem dL_law_725 : decode cL_law 725 = .ok (.iload_n 3, 1) := by decide +kernel
theorem dL_law_726 : decode cL_law 726 = .ok (.iconst 1, 1) := by decide +kernel
theorem dL_law_727 : decode cL_law 727 = .ok (.iadd, 1) := by decide +kernel
theorem dL_law_728 : decode cL_law 728 = .ok (.iaload, 1) := by decide +kernel
theorem dL_law_729 : decode cL_law 729 = .ok (.aload_n 0, 1) := by decide +kernel
theorem dL_law_730 : decode cL_law 730 = .ok (.iload_n 3, 1) := by decide +kernel
theorem dL_law_731 : decode cL_law 731 = .ok (.iconst 2, 1) := by decide +kernel
theorem dL_law_732 : decode cL_law 732 = .ok (.iadd, 1) := by decide +kernel
theorem dL_law_733 : decode cL_law 733 = .ok (.iaload, 1) := by decide +kernel
theorem dL_law_734 : decode cL_law 734 = .ok (.invokevirtual 96, 3) := by decide +kernel
theorem dL_law_737 : decode cL_law 737 = .ok (.if_icmp .eq 535, 3) := by decide +kernel
theorem dL_law_740 : decode cL_law 740 = .ok (.iconst 0, 1) := by decide +kernel
theorem dL_law_741 : decode cL_law 741 = .ok (.ireturn, 1) := by decide +kernel
theorem dL_law_742 : decode cL_law 742 = .ok (.aload_n 1, 1) := by decide +kernel
theorem dL_law_743 : decode cL_law 743 = .ok (.aload_n 0, 1) := by decide +kernel
theorem dL_law_744 : decode cL_law 744 = .ok (.iload_n 3, 1) := by decide +kernel
theorem dL_law_745 : decode cL_law 745 = .ok (.iconst 1, 1) := by decide +kernel
theorem dL_law_746 : decode cL_law 746 = .ok (.iadd, 1) := by decide +kernel
theorem dL_law_747 : decode cL_law 747 = .ok (.iaload, 1) := by decide +kernel
theorem dL_law_748 : decode cL_law 748 = .ok (.aload_n 0, 1) := by decide +kernel
theorem dL_law_749 : decode cL_law 749 = .ok (.iload_n 3, 1) := by decide +kernel
theorem dL_law_750 : decode cL_law 750 = .ok (.iconst 2, 1) := by decide +kernel
theorem dL_law_751 : decode cL_law 751 = .ok (.iadd, 1) := by decide +kernel
theorem dL_law_752 : decode cL_law 752 = .ok (.iaload, 1) := by decide +kernel
theorem dL_law_753 : decode cL_law 753 = .ok (.invokevirtual 97, 3) := by decide +kernel
theorem dL_law_756 : decode cL_law 756 = .ok (.aload_n 2, 1) := by decide +kernel
theorem dL_law_757 : decode cL_law 757 = .ok (.aload_n 0, 1) := by decide +kernel
theorem dL_law_758 : decode cL_law 758 = .ok (.iload_n 3, 1) := by decide +kernel
theorem dL_law_759 : decode cL_law 759 = .ok (.iconst 1, 1) := by decide +kernel
theorem dL_law_760 : decode cL_law 760 = .ok (.iadd, 1) := by decide +kernel
theorem dL_law_761 : decode cL_law 761 = .ok (.iaload, 1) := by decide +kernel
theorem dL_law_762 : decode cL_law 762 = .ok (.aload_n 0, 1) := by decide +kernel
theorem dL_law_763 : decode cL_law 763 = .ok (.iload_n 3, 1) := by decide +kernel
theorem dL_law_764 : decode cL_law 764 = .ok (.iconst 2, 1) := by decide +kernel
theorem dL_law_765 : decode cL_law 765 = .ok (.iadd, 1) := by decide +kernel
theorem dL_law_766 : decode cL_law 766 = .ok (.iaload, 1) := by decide +kernel
theorem dL_law_767 : decode cL_law 767 = .ok (.invokevirtual 100, 3) := by decide +kernel
theorem dL_law_770 : decode cL_law 770 = .ok (.if_icmp .eq 502, 3) := by decide +kernel
theorem dL_law_773 : decode cL_law 773 = .ok (.iconst 0, 1) := by decide +kernel
theorem dL_law_774 : decode cL_law 774 = .ok (.ireturn, 1) := by decide +kernel
theorem dL_law_775 : decode cL_law 775 = .ok (.aload_n 1, 1) := by decide +kernel
theorem dL_law_776 : decode cL_law 776 = .ok (.aload_n 0, 1) := by decide +kernel
theorem dL_law_777 : decode cL_law 777 = .ok (.iload_n 3, 1) := by decide +kernel
theorem dL_law_778 : decode cL_law 778 = .ok (.iconst 1, 1) := by decide +kernel
theorem dL_law_779 : decode cL_law 779 = .ok (.iadd, 1) := by decide +kernel
theorem dL_law_780 : decode cL_law 780 = .ok (.iaload, 1) := by decide +kernel
theorem dL_law_781 : decode cL_law 781 = .ok (.aload_n 0, 1) := by decide +kernel
theorem dL_law_782 : decode cL_law 782 = .ok (.iload_n 3, 1) := by decide +kernel
theorem dL_law_783 : decode cL_law 783 = .ok (.iconst 2, 1) := by decide +kernel
theorem dL_law_784 : decode cL_law 784 = .ok (.iadd, 1) := by decide +kernel
theorem dL_law_785 : decode cL_law 785 = .ok (.iaload, 1) := by decide +kernel
theorem dL_law_786 : decode cL_law 786 = .ok (.aload_n 0, 1) := by decide +kernel
theorem dL_law_787 : decode cL_law 787 = .ok (.iload_n 3, 1) := by decide +kernel
theorem dL_law_788 : decode cL_law 788 = .ok (.iconst 3, 1) := by decide +kernel
theorem dL_law_789 : decode cL_law 789 = .ok (.iadd, 1) := by decide +kernel
theorem dL_law_790 : decode cL_law 790 = .ok (.iaload, 1) := by decide +kernel
theorem dL_law_791 : decode cL_law 791 = .ok (.invokevirtual 101, 3) := by decide +kernel
theorem dL_law_794 : decode cL_law 794 = .ok (.aload_n 2, 1) := by decide +kernel
theorem dL_law_795 : decode cL_law 795 = .ok (.aload_n 0, 1) := by decide +kernel
theorem dL_law_796 : decode cL_law 796 = .ok (.iload_n 3, 1) := by decide +kernel
theorem dL_law_797 : decode cL_law 797 = .ok (.iconst 1, 1) := by decide +kernel
theorem dL_law_798 : decode cL_law 798 = .ok (.iadd, 1) := by decide +kernel
theorem dL_law_799 : decode cL_law 799 = .ok (.iaload, 1) := by decide +kernel
theorem dL_law_800 : decode cL_law 800 = .ok (.aload_n 0, 1) := by decide +kernel
theorem dL_law_801 : decode cL_law 801 = .ok (.iload_n 3, 1) := by decide +kernel
theorem dL_law_802 : decode cL_law 802 = .ok (.iconst 2, 1) := by decide +kernel
theorem dL_law_803 : decode cL_law 803 = .ok (.iadd, 1) := by decide +kernel
theorem dL_law_804 : decode cL_law 804 = .ok (.iaload, 1) := by decide +kernel
theorem dL_law_805 : decode cL_law 805 = .ok (.aload_n 0, 1) := by decide +kernel
theorem dL_law_806 : decode cL_law 806 = .ok (.iload_n 3, 1) := by decide +kernel
theorem dL_law_807 : decode cL_law 807 = .ok (.iconst 3, 1) := by decide +kernel
theorem dL_law_808 : decode cL_law 808 = .ok (.iadd, 1) := by decide +kernel
theorem dL_law_809 : decode cL_law 809 = .ok (.iaload, 1) := by decide +kernel
theorem dL_law_810 : decode cL_law 810 = .ok (.invokevirtual 105, 3) := by decide +kernel
theorem dL_law_813 : decode cL_law 813 = .ok (.lcmp, 1) := by decide +kernel
theorem dL_law_814 : decode cL_law 814 = .ok (.ifCond .eq 458, 3) := by decide +kernel
theorem dL_law_817 : decode cL_law 817 = .ok (.iconst 0, 1) := by decide +kernel
theorem dL_law_818 : decode cL_law 818 = .ok (.ireturn, 1) := by decide +kernel
theorem dL_law_819 : decode cL_law 819 = .ok (.aload_n 1, 1) := by decide +kernel
theorem dL_law_820 : decode cL_law 820 = .ok (.aload_n 0, 1) := by decide +kernel
theorem dL_law_821 : decode cL_law 821 = .ok (.iload_n 3, 1) := by decide +kernel
theorem dL_law_822 : decode cL_law 822 = .ok (.iconst 1, 1) := by decide +kernel
theorem dL_law_823 : decode cL_law 823 = .ok (.iadd, 1) := by decide +kernel
theorem dL_law_824 : decode cL_law 824 = .ok (.iaload, 1) := by decide +kernel
theorem dL_law_825 : decode cL_law 825 = .ok (.aload_n 0, 1) := by decide +kernel
theorem dL_law_826 : decode cL_law 826 = .ok (.iload_n 3, 1) := by decide +kernel
theorem dL_law_827 : decode cL_law 827 = .ok (.iconst 2, 1) := by decide +kernel
theorem dL_law_828 : decode cL_law 828 = .ok (.iadd, 1) := by decide +kernel
theorem dL_law_829 : decode cL_law 829 = .ok (.iaload, 1) := by decide +kernel
theorem dL_law_830 : decode cL_law 830 = .ok (.aload_n 0, 1) := by decide +kernel
theorem dL_law_831 : decode cL_law 831 = .ok (.iload_n 3, 1) := by decide +kernel
theorem dL_law_832 : decode cL_law 832 = .ok (.iconst 3, 1) := by decide +kernel
theorem dL_law_833 : decode cL_law 833 = .ok (.iadd, 1) := by decide +kernel
theorem dL_law_834 : decode cL_law 834 = .ok (.iaload, 1) := by decide +kernel
theorem dL_law_835 : decode cL_law 835 = .ok (.invokevirtual 106, 3) := by decide +kernel
theorem dL_law_838 : decode cL_law 838 = .ok (.aload_n 2, 1) := by decide +kernel
theorem dL_law_839 : decode cL_law 839 = .ok (.aload_n 0, 1) := by decide +kernel
theorem dL_law_840 : decode cL_law 840 = .ok (.iload_n 3, 1) := by decide +kernel
theorem dL_law_841 : decode cL_law 841 = .ok (.iconst 1, 1) := by decide +kernel
theorem dL_law_842 : decode cL_law 842 = .ok (.iadd, 1) := by decide +kernel
theorem dL_law_843 : decode cL_law 843 = .ok (.iaload, 1) := by decide +kernel
theorem dL_law_844 : decode cL_law 844 = .ok (.aload_n 0, 1) := by decide +kernel
theorem dL_law_845 : decode cL_law 845 = .ok (.iload_n 3, 1) := by decide +kernel
theorem dL_law_846 : decode cL_law 846 = .ok (.iconst 2, 1) := by decide +kernel
theorem dL_law_847 : decode cL_law 847 = .ok (.iadd, 1) := by decide +kernel
theorem dL_law_848 : decode cL_law 848 = .ok (.iaload, 1) := by decide +kernel
theorem dL_law_849 : decode cL_law 849 = .ok (.aload_n 0, 1) := by decide +kernel
theorem dL_law_850 : decode cL_law 850 = .ok (.iload_n 3, 1) := by decide +kernel
theorem dL_law_851 : decode cL_law 851 = .ok (.iconst 3, 1) := by decide +kernel
theorem dL_law_852 : decode cL_law 852 = .ok (.iadd, 1) := by decide +kernel
theorem dL_law_853 : decode cL_law 853 = .ok (.iaload, 1) := by decide +kernel
theorem dL_law_854 : decode cL_law 854 = .ok (.invokevirtual 109, 3) := by decide +kernel
theorem dL_law_857 : decode cL_law 857 = .ok (.lcmp, 1) := by decide +kernel
theorem dL_law_858 : decode cL_law 858 = .ok (.ifCond .eq 414, 3) := by decide +kernel
theorem dL_law_861 : decode cL_law 861 = .ok (.iconst 0, 1) := by decide +kernel
theorem dL_law_862 : decode cL_law 862 = .ok (.ireturn, 1) := by decide +kernel
theorem dL_law_863 : decode cL_law 863 = .ok (.aload_n 1, 1) := by decide +kernel
theorem dL_law_864 : decode cL_law 864 = .ok (.aload_n 0, 1) := by decide +kernel
theorem dL_law_865 : decode cL_law 865 = .ok (.iload_n 3, 1) := by decide +kernel
theorem dL_law_866 : decode cL_law 866 = .ok (.iconst 1, 1) := by decide +kernel
theorem dL_law_867 : decode cL_law 867 = .ok (.iadd, 1) := by decide +kernel
theorem dL_law_868 : decode cL_law 868 = .ok (.iaload, 1) := by decide +kernel
theorem dL_law_869 : decode cL_law 869 = .ok (.aload_n 0, 1) := by decide +kernel
theorem dL_law_870 : decode cL_law 870 = .ok (.iload_n 3, 1) := by decide +kernel
theorem dL_law_871 : decode cL_law 871 = .ok (.iconst 2, 1) := by decide +kernel
theorem dL_law_872 : decode cL_law 872 = .ok (.iadd, 1) := by decide +kernel
theorem dL_law_873 : decode cL_law 873 = .ok (.iaload, 1) := by decide +kernel
theorem dL_law_874 : decode cL_law 874 = .ok (.aload_n 0, 1) := by decide +kernel
theorem dL_law_875 : decode cL_law 875 = .ok (.iload_n 3, 1) := by decide +kernel
theorem dL_law_876 : decode cL_law 876 = .ok (.iconst 3, 1) := by decide +kernel
theorem dL_law_877 : decode cL_law 877 = .ok (.iadd, 1) := by decide +kernel
theorem dL_law_878 : decode cL_law 878 = .ok (.iaload, 1) := by decide +kernel
theorem dL_law_879 : decode cL_law 879 = .ok (.invokevirtual 110, 3) := by decide +kernel
theorem dL_law_882 : decode cL_law 882 = .ok (.aload_n 2, 1) := by decide +kernel
theorem dL_law_883 : decode cL_law 883 = .ok (.aload_n 0, 1) := by decide +kernel
theorem dL_law_884 : decode cL_law 884 = .ok (.iload_n 3, 1) := by decide +kernel
theorem dL_law_885 : decode cL_law 885 = .ok (.iconst 1, 1) := by decide +kernel
theorem dL_law_886 : decode cL_law 886 = .ok (.iadd, 1) := by decide +kernel
theorem dL_law_887 : decode cL_law 887 = .ok (.iaload, 1) := by decide +kernel
theorem dL_law_888 : decode cL_law 888 = .ok (.aload_n 0, 1) := by decide +kernel
theorem dL_law_889 : decode cL_law 889 = .ok (.iload_n 3, 1) := by decide +kernel
theorem dL_law_890 : decode cL_law 890 = .ok (.iconst 2, 1) := by decide +kernel
theorem dL_law_891 : decode cL_law 891 = .ok (.iadd, 1) := by decide +kernel
theorem dL_law_892 : decode cL_law 892 = .ok (.iaload, 1) := by decide +kernel
theorem dL_law_893 : decode cL_law 893 = .ok (.aload_n 0, 1) := by decide +kernel
theorem dL_law_894 : decode cL_law 894 = .ok (.iload_n 3, 1) := by decide +kernel
theorem dL_law_895 : decode cL_law 895 = .ok (.iconst 3, 1) := by decide +kernel
theorem dL_law_896 : decode cL_law 896 = .ok (.iadd, 1) := by decide +kernel
theorem dL_law_897 : decode cL_law 897 = .ok (.iaload, 1) := by decide +kernel
theorem dL_law_898 : decode cL_law 898 = .ok (.invokevirtual 113, 3) := by decide +kernel
theorem dL_law_901 : decode cL_law 901 = .ok (.if_icmp .eq 371, 3) := by decide +kernel
theorem dL_law_904 : decode cL_law 904 = .ok (.iconst 0, 1) := by decide +kernel
theorem dL_law_905 : decode cL_law 905 = .ok (.ireturn, 1) := by decide +kernel
theorem dL_law_906 : decode cL_law 906 = .ok (.aload_n 1, 1) := by decide +kernel
theorem dL_law_907 : decode cL_law 907 = .ok (.aload_n 0, 1) := by decide +kernel
theorem dL_law_908 : decode cL_law 908 = .ok (.iload_n 3, 1) := by decide +kernel
theorem dL_law_909 : decode cL_law 909 = .ok (.iconst 1, 1) := by decide +kernel
theorem dL_law_910 : decode cL_law 910 = .ok (.iadd, 1) := by decide +kernel
theorem dL_law_911 : decode cL_law 911 = .ok (.iaload, 1) := by decide +kernel
theorem dL_law_912 : decode cL_law 912 = .ok (.invokevirtual 114, 3) := by decide +kernel
theorem dL_law_915 : decode cL_law 915 = .ok (.aload_n 2, 1) := by decide +kernel
theorem dL_law_916 : decode cL_law 916 = .ok (.aload_n 0, 1) := by decide +kernel
theorem dL_law_917 : decode cL_law 917 = .ok (.iload_n 3, 1) := by decide +kernel
theorem dL_law_918 : decode cL_law 918 = .ok (.iconst 1, 1) := by decide +kernel
theorem dL_law_919 : decode cL_law 919 = .ok (.iadd, 1) := by decide +kernel
theorem dL_law_920 : decode cL_law 920 = .ok (.iaload, 1) := by decide +kernel
theorem dL_law_921 : decode cL_law 921 = .ok (.invokevirtual 117, 3) := by decide +kernel
theorem dL_law_924 : decode cL_law 924 = .ok (.if_icmp .eq 348, 3) := by decide +kernel
theorem dL_law_927 : decode cL_law 927 = .ok (.iconst 0, 1) := by decide +kernel
theorem dL_law_928 : decode cL_law 928 = .ok (.ireturn, 1) := by decide +kernel
theorem dL_law_929 : decode cL_law 929 = .ok (.aload_n 1, 1) := by decide +kernel
theorem dL_law_930 : decode cL_law 930 = .ok (.aload_n 0, 1) := by decide +kernel
theorem dL_law_931 : decode cL_law 931 = .ok (.iload_n 3, 1) := by decide +kernel
theorem dL_law_932 : decode cL_law 932 = .ok (.iconst 1, 1) := by decide +kernel
theorem dL_law_933 : decode cL_law 933 = .ok (.iadd, 1) := by decide +kernel
theorem dL_law_934 : decode cL_law 934 = .ok (.iaload, 1) := by decide +kernel
theorem dL_law_935 : decode cL_law 935 = .ok (.invokevirtual 118, 3) := by decide +kernel
theorem dL_law_938 : decode cL_law 938 = .ok (.aload_n 2, 1) := by decide +kernel
theorem dL_law_939 : decode cL_law 939 = .ok (.aload_n 0, 1) := by decide +kernel
theorem dL_law_940 : decode cL_law 940 = .ok (.iload_n 3, 1) := by decide +kernel
theorem dL_law_941 : decode cL_law 941 = .ok (.iconst 1, 1) := by decide +kernel
theorem dL_law_942 : decode cL_law 942 = .ok (.iadd, 1) := by decide +kernel
theorem dL_law_943 : decode cL_law 943 = .ok (.iaload, 1) := by decide +kernel
theorem dL_law_944 : decode cL_law 944 = .ok (.invokevirtual 121, 3) := by decide +kernel
theorem dL_law_947 : decode cL_law 947 = .ok (.if_icmp .eq 325, 3) := by decide +kernel
theorem dL_law_950 : decode cL_law 950 = .ok (.iconst 0, 1) := by decide +kernel
theorem dL_law_951 : decode cL_law 951 = .ok (.ireturn, 1) := by decide +kernel
theorem dL_law_952 : decode cL_law 952 = .ok (.aload_n 1, 1) := by decide +kernel
theorem dL_law_953 : decode cL_law 953 = .ok (.aload_n 0, 1) := by decide +kernel
theorem dL_law_954 : decode cL_law 954 = .ok (.iload_n 3, 1) := by decide +kernel
theorem dL_law_955 : decode cL_law 955 = .ok (.iconst 1, 1) := by decide +kernel
theorem dL_law_956 : decode cL_law 956 = .ok (.iadd, 1) := by decide +kernel
theorem dL_law_957 : decode cL_law 957 = .ok (.iaload, 1) := by decide +kernel
theorem dL_law_958 : decode cL_law 958 = .ok (.invokevirtual 122, 3) := by decide +kernel
theorem dL_law_961 : decode cL_law 961 = .ok (.aload_n 2, 1) := by decide +kernel
theorem dL_law_962 : decode cL_law 962 = .ok (.aload_n 0, 1) := by decide +kernel
theorem dL_law_963 : decode cL_law 963 = .ok (.iload_n 3, 1) := by decide +kernel
theorem dL_law_964 : decode cL_law 964 = .ok (.iconst 1, 1) := by decide +kernel
theorem dL_law_965 : decode cL_law 965 = .ok (.iadd, 1) := by decide +kernel
theorem dL_law_966 : decode cL_law 966 = .ok (.iaload, 1) := by decide +kernel
theorem dL_law_967 : decode cL_law 967 = .ok (.invokevirtual 125, 3) := by decide +kernel
theorem dL_law_970 : decode cL_law 970 = .ok (.if_icmp .eq 302, 3) := by decide +kernel
theorem dL_law_973 : decode cL_law 973 = .ok (.iconst 0, 1) := by decide +kernel
theorem dL_law_974 : decode cL_law 974 = .ok (.ireturn, 1) := by decide +kernel
theorem dL_law_975 : decode cL_law 975 = .ok (.aload_n 1, 1) := by decide +kernel
theorem dL_law_976 : decode cL_law 976 = .ok (.aload_n 0, 1) := by decide +kernel
theorem dL_law_977 : decode cL_law 977 = .ok (.iload_n 3, 1) := by decide +kernel
theorem dL_law_978 : decode cL_law 978 = .ok (.iconst 1, 1) := by decide +kernel
theorem dL_law_979 : decode cL_law 979 = .ok (.iadd, 1) := by decide +kernel
theorem dL_law_980 : decode cL_law 980 = .ok (.iaload, 1) := by decide +kernel
theorem dL_law_981 : decode cL_law 981 = .ok (.aload_n 0, 1) := by decide +kernel
theorem dL_law_982 : decode cL_law 982 = .ok (.iload_n 3, 1) := by decide +kernel
theorem dL_law_983 : decode cL_law 983 = .ok (.iconst 2, 1) := by decide +kernel
theorem dL_law_984 : decode cL_law 984 = .ok (.iadd, 1) := by decide +kernel
theorem dL_law_985 : decode cL_law 985 = .ok (.iaload, 1) := by decide +kernel
theorem dL_law_986 : decode cL_law 986 = .ok (.invokevirtual 126, 3) := by decide +kernel
theorem dL_law_989 : decode cL_law 989 = .ok (.aload_n 2, 1) := by decide +kernel
theorem dL_law_990 : decode cL_law 990 = .ok (.aload_n 0, 1) := by decide +kernel
theorem dL_law_991 : decode cL_law 991 = .ok (.iload_n 3, 1) := by decide +kernel
theorem dL_law_992 : decode cL_law 992 = .ok (.iconst 1, 1) := by decide +kernel
theorem dL_law_993 : decode cL_law 993 = .ok (.iadd, 1) := by decide +kernel
theorem dL_law_994 : decode cL_law 994 = .ok (.iaload, 1) := by decide +kernel
theorem dL_law_995 : decode cL_law 995 = .ok (.aload_n 0, 1) := by decide +kernel
theorem dL_law_996 : decode cL_law 996 = .ok (.iload_n 3, 1) := by decide +kernel
theorem dL_law_997 : decode cL_law 997 = .ok (.iconst 2, 1) := by decide +kernel
theorem dL_law_998 : decode cL_law 998 = .ok (.iadd, 1) := by decide +kernel
theorem dL_law_999 : decode cL_law 999 = .ok (.iaload, 1) := by decide +kernel
theorem dL_law_1000 : decode cL_law 1000 = .ok (.invokevirtual 129, 3) := by decide +kernel
theorem dL_law_1003 : decode cL_law 1003 = .ok (.if_icmp .eq 269, 3) := by decide +kernel
theorem dL_law_1006 : decode cL_law 1006 = .ok (.iconst 0, 1) := by decide +kernel
theorem dL_law_1007 : decode cL_law 1007 = .ok (.ireturn, 1) := by decide +kernel
theorem dL_law_1008 : decode cL_law 1008 = .ok (.aload_n 1, 1) := by decide +kernel
theorem dL_law_1009 : decode cL_law 1009 = .ok (.aload_n 0, 1) := by decide +kernel
theorem dL_law_1010 : decode cL_law 1010 = .ok (.iload_n 3, 1) := by decide +kernel
theorem dL_law_1011 : decode cL_law 1011 = .ok (.iconst 1, 1) := by decide +kernel
theorem dL_law_1012 : decode cL_law 1012 = .ok (.iadd, 1) := by decide +kernel
theorem dL_law_1013 : decode cL_law 1013 = .ok (.iaload, 1) := by decide +kernel
theorem dL_law_1014 : decode cL_law 1014 = .ok (.aload_n 0, 1) := by decide +kernel
theorem dL_law_1015 : decode cL_law 1015 = .ok (.iload_n 3, 1) := by decide +kernel
theorem dL_law_1016 : decode cL_law 1016 = .ok (.iconst 2, 1) := by decide +kernel
theorem dL_law_1017 : decode cL_law 1017 = .ok (.iadd, 1) := by decide +kernel
theorem dL_law_1018 : decode cL_law 1018 = .ok (.iaload, 1) := by decide +kernel
theorem dL_law_1019 : decode cL_law 1019 = .ok (.aload_n 0, 1) := by decide +kernel
theorem dL_law_1020 : decode cL_law 1020 = .ok (.iload_n 3, 1) := by decide +kernel
theorem dL_law_1021 : decode cL_law 1021 = .ok (.iconst 3, 1) := by decide +kernel
theorem dL_law_1022 : decode cL_law 1022 = .ok (.iadd, 1) := by decide +kernel
theorem dL_law_1023 : decode cL_law 1023 = .ok (.iaload, 1) := by decide +kernel
theorem dL_law_1024 : decode cL_law 1024 = .ok (.invokevirtual 130, 3) := by decide +kernel
theorem dL_law_1027 : decode cL_law 1027 = .ok (.aload_n 2, 1) := by decide +kernel
theorem dL_law_1028 : decode cL_law 1028 = .ok (.aload_n 0, 1) := by decide +kernel
theorem dL_law_1029 : decode cL_law 1029 = .ok (.iload_n 3, 1) := by decide +kernel
theorem dL_law_1030 : decode cL_law 1030 = .ok (.iconst 1, 1) := by decide +kernel
theorem dL_law_1031 : decode cL_law 1031 = .ok (.iadd, 1) := by decide +kernel
theorem dL_law_1032 : decode cL_law 1032 = .ok (.iaload, 1) := by decide +kernel
theorem dL_law_1033 : decode cL_law 1033 = .ok (.aload_n 0, 1) := by decide +kernel
theorem dL_law_1034 : decode cL_law 1034 = .ok (.iload_n 3, 1) := by decide +kernel
theorem dL_law_1035 : decode cL_law 1035 = .ok (.iconst 2, 1) := by decide +kernel
theorem dL_law_1036 : decode cL_law 1036 = .ok (.iadd, 1) := by decide +kernel
theorem dL_law_1037 : decode cL_law 1037 = .ok (.iaload, 1) := by decide +kernel
theorem dL_law_1038 : decode cL_law 1038 = .ok (.aload_n 0, 1) := by decide +kernel
theorem dL_law_1039 : decode cL_law 1039 = .ok (.iload_n 3, 1) := by decide +kernel
theorem dL_law_1040 : decode cL_law 1040 = .ok (.iconst 3, 1) := by decide +kernel
theorem dL_law_1041 : decode cL_law 1041 = .ok (.iadd, 1) := by decide +kernel
theorem dL_law_1042 : decode cL_law 1042 = .ok (.iaload, 1) := by decide +kernel
theorem dL_law_1043 : decode cL_law 1043 = .ok (.invokevirtual 133, 3) := by decide +kernel
theorem dL_law_1046 : decode cL_law 1046 = .ok (.if_icmp .eq 226, 3) := by decide +kernel
theorem dL_law_1049 : decode cL_law 1049 = .ok (.iconst 0, 1) := by decide +kernel
theorem dL_law_1050 : decode cL_law 1050 = .ok (.ireturn, 1) := by decide +kernel
theorem dL_law_1051 : decode cL_law 1051 = .ok (.aload_n 1, 1) := by decide +kernel
theorem dL_law_1052 : decode cL_law 1052 = .ok (.aload_n 0, 1) := by decide +kernel
theorem dL_law_1053 : decode cL_law 1053 = .ok (.iload_n 3, 1) := by decide +kernel
theorem dL_law_1054 : decode cL_law 1054 = .ok (.iconst 1, 1) := by decide +kernel
theorem dL_law_1055 : decode cL_law 1055 = .ok (.iadd, 1) := by decide +kernel
theorem dL_law_1056 : decode cL_law 1056 = .ok (.iaload, 1) := by decide +kernel
theorem dL_law_1057 : decode cL_law 1057 = .ok (.invokevirtual 134, 3) := by decide +kernel
theorem dL_law_1060 : decode cL_law 1060 = .ok (.aload_n 2, 1) := by decide +kernel
theorem dL_law_1061 : decode cL_law 1061 = .ok (.aload_n 0, 1) := by decide +kernel
theorem dL_law_1062 : decode cL_law 1062 = .ok (.iload_n 3, 1) := by decide +kernel
theorem dL_law_1063 : decode cL_law 1063 = .ok (.iconst 1, 1) := by decide +kernel
theorem dL_law_1064 : decode cL_law 1064 = .ok (.iadd, 1) := by decide +kernel
theorem dL_law_1065 : decode cL_law 1065 = .ok (.iaload, 1) := by decide +kernel
theorem dL_law_1066 : decode cL_law 1066 = .ok (.invokevirtual 137, 3) := by decide +kernel
theorem dL_law_1069 : decode cL_law 1069 = .ok (.if_icmp .eq 203, 3) := by decide +kernel
theorem dL_law_1072 : decode cL_law 1072 = .ok (.iconst 0, 1) := by decide +kernel
theorem dL_law_1073 : decode cL_law 1073 = .ok (.ireturn, 1) := by decide +kernel
theorem dL_law_1074 : decode cL_law 1074 = .ok (.aload_n 1, 1) := by decide +kernel
theorem dL_law_1075 : decode cL_law 1075 = .ok (.aload_n 0, 1) := by decide +kernel
theorem dL_law_1076 : decode cL_law 1076 = .ok (.iload_n 3, 1) := by decide +kernel
theorem dL_law_1077 : decode cL_law 1077 = .ok (.iconst 1, 1) := by decide +kernel
theorem dL_law_1078 : decode cL_law 1078 = .ok (.iadd, 1) := by decide +kernel
theorem dL_law_1079 : decode cL_law 1079 = .ok (.iaload, 1) := by decide +kernel
theorem dL_law_1080 : decode cL_law 1080 = .ok (.invokevirtual 138, 3) := by decide +kernel
theorem dL_law_1083 : decode cL_law 1083 = .ok (.aload_n 2, 1) := by decide +kernel
theorem dL_law_1084 : decode cL_law 1084 = .ok (.aload_n 0, 1) := by decide +kernel
theorem dL_law_1085 : decode cL_law 1085 = .ok (.iload_n 3, 1) := by decide +kernel
theorem dL_law_1086 : decode cL_law 1086 = .ok (.iconst 1, 1) := by decide +kernel
theorem dL_law_1087 : decode cL_law 1087 = .ok (.iadd, 1) := by decide +kernel
theorem dL_law_1088 : decode cL_law 1088 = .ok (.iaload, 1) := by decide +kernel
theorem dL_law_1089 : decode cL_law 1089 = .ok (.invokevirtual 141, 3) := by decide +kernel
theorem dL_law_1092 : decode cL_law 1092 = .ok (.if_icmp .eq 180, 3) := by decide +kernel
theorem dL_law_1095 : decode cL_law 1095 = .ok (.iconst 0, 1) := by decide +kernel
theorem dL_law_1096 : decode cL_law 1096 = .ok (.ireturn, 1) := by decide +kernel
theorem dL_law_1097 : decode cL_law 1097 = .ok (.aload_n 1, 1) := by decide +kernel
theorem dL_law_1098 : decode cL_law 1098 = .ok (.aload_n 0, 1) := by decide +kernel
theorem dL_law_1099 : decode cL_law 1099 = .ok (.iload_n 3, 1) := by decide +kernel
theorem dL_law_1100 : decode cL_law 1100 = .ok (.iconst 1, 1) := by decide +kernel
theorem dL_law_1101 : decode cL_law 1101 = .ok (.iadd, 1) := by decide +kernel
theorem dL_law_1102 : decode cL_law 1102 = .ok (.iaload, 1) := by decide +kernel
theorem dL_law_1103 : decode cL_law 1103 = .ok (.aload_n 0, 1) := by decide +kernel
theorem dL_law_1104 : decode cL_law 1104 = .ok (.iload_n 3, 1) := by decide +kernel
theorem dL_law_1105 : decode cL_law 1105 = .ok (.iconst 2, 1) := by decide +kernel
theorem dL_law_1106 : decode cL_law 1106 = .ok (.iadd, 1) := by decide +kernel
theorem dL_law_1107 : decode cL_law 1107 = .ok (.iaload, 1) := by decide +kernel
theorem dL_law_1108 : decode cL_law 1108 = .ok (.aload_n 0, 1) := by decide +kernel
theorem dL_law_1109 : decode cL_law 1109 = .ok (.iload_n 3, 1) := by decide +kernel
theorem dL_law_1110 : decode cL_law 1110 = .ok (.iconst 3, 1) := by decide +kernel
theorem dL_law_1111 : decode cL_law 1111 = .ok (.iadd, 1) := by decide +kernel
theorem dL_law_1112 : decode cL_law 1112 = .ok (.iaload, 1) := by decide +kernel
theorem dL_law_1113 : decode cL_law 1113 = .ok (.invokevirtual 142, 3) := by decide +kernel
theorem dL_law_1116 : decode cL_law 1116 = .ok (.aload_n 2, 1) := by decide +kernel
theorem dL_law_1117 : decode cL_law 1117 = .ok (.aload_n 0, 1) := by decide +kernel
theorem dL_law_1118 : decode cL_law 1118 = .ok (.iload_n 3, 1) := by decide +kernel
theorem dL_law_1119 : decode cL_law 1119 = .ok (.iconst 1, 1) := by decide +kernel
theorem dL_law_1120 : decode cL_law 1120 = .ok (.iadd, 1) := by decide +kernel
theorem dL_law_1121 : decode cL_law 1121 = .ok (.iaload, 1) := by decide +kernel
theorem dL_law_1122 : decode cL_law 1122 = .ok (.aload_n 0, 1) := by decide +kernel
theorem dL_law_1123 : decode cL_law 1123 = .ok (.iload_n 3, 1) := by decide +kernel
theorem dL_law_1124 : decode cL_law 1124 = .ok (.iconst 2, 1) := by decide +kernel
theorem dL_law_1125 : decode cL_law 1125 = .ok (.iadd, 1) := by decide +kernel
theorem dL_law_1126 : decode cL_law 1126 = .ok (.iaload, 1) := by decide +kernel
theorem dL_law_1127 : decode cL_law 1127 = .ok (.aload_n 0, 1) := by decide +kernel
theorem dL_law_1128 : decode cL_law 1128 = .ok (.iload_n 3, 1) := by decide +kernel
theorem dL_law_1129 : decode cL_law 1129 = .ok (.iconst 3, 1) := by decide +kernel
theorem dL_law_1130 : decode cL_law 1130 = .ok (.iadd, 1) := by decide +kernel
theorem dL_law_1131 : decode cL_law 1131 = .ok (.iaload, 1) := by decide +kernel
theorem dL_law_1132 : decode cL_law 1132 = .ok (.invokevirtual 145, 3) := by decide +kernel
theorem dL_law_1135 : decode cL_law 1135 = .ok (.if_icmp .eq 137, 3) := by decide +kernel
theorem dL_law_1138 : decode cL_law 1138 = .ok (.iconst 0, 1) := by decide +kernel
theorem dL_law_1139 : decode cL_law 1139 = .ok (.ireturn, 1) := by decide +kernel
theorem dL_law_1140 : decode cL_law 1140 = .ok (.aload_n 1, 1) := by decide +kernel
theorem dL_law_1141 : decode cL_law 1141 = .ok (.aload_n 0, 1) := by decide +kernel
theorem dL_law_1142 : decode cL_law 1142 = .ok (.iload_n 3, 1) := by decide +kernel
theorem dL_law_1143 : decode cL_law 1143 = .ok (.iconst 1, 1) := by decide +kernel
theorem dL_law_1144 : decode cL_law 1144 = .ok (.iadd, 1) := by decide +kernel
theorem dL_law_1145 : decode cL_law 1145 = .ok (.iaload, 1) := by decide +kernel
theorem dL_law_1146 : decode cL_law 1146 = .ok (.aload_n 0, 1) := by decide +kernel
theorem dL_law_1147 : decode cL_law 1147 = .ok (.iload_n 3, 1) := by decide +kernel
theorem dL_law_1148 : decode cL_law 1148 = .ok (.iconst 2, 1) := by decide +kernel
theorem dL_law_1149 : decode cL_law 1149 = .ok (.iadd, 1) := by decide +kernel
theorem dL_law_1150 : decode cL_law 1150 = .ok (.iaload, 1) := by decide +kernel
theorem dL_law_1151 : decode cL_law 1151 = .ok (.aload_n 0, 1) := by decide +kernel
theorem dL_law_1152 : decode cL_law 1152 = .ok (.iload_n 3, 1) := by decide +kernel
theorem dL_law_1153 : decode cL_law 1153 = .ok (.iconst 3, 1) := by decide +kernel
theorem dL_law_1154 : decode cL_law 1154 = .ok (.iadd, 1) := by decide +kernel
theorem dL_law_1155 : decode cL_law 1155 = .ok (.iaload, 1) := by decide +kernel
theorem dL_law_1156 : decode cL_law 1156 = .ok (.invokevirtual 146, 3) := by decide +kernel
theorem dL_law_1159 : decode cL_law 1159 = .ok (.aload_n 2, 1) := by decide +kernel
theorem dL_law_1160 : decode cL_law 1160 = .ok (.aload_n 0, 1) := by decide +kernel
theorem dL_law_1161 : decode cL_law 1161 = .ok (.iload_n 3, 1) := by decide +kernel
theorem dL_law_1162 : decode cL_law 1162 = .ok (.iconst 1, 1) := by decide +kernel
theorem dL_law_1163 : decode cL_law 1163 = .ok (.iadd, 1) := by decide +kernel
theorem dL_law_1164 : decode cL_law 1164 = .ok (.iaload, 1) := by decide +kernel
theorem dL_law_1165 : decode cL_law 1165 = .ok (.aload_n 0, 1) := by decide +kernel
theorem dL_law_1166 : decode cL_law 1166 = .ok (.iload_n 3, 1) := by decide +kernel
theorem dL_law_1167 : decode cL_law 1167 = .ok (.iconst 2, 1) := by decide +kernel
theorem dL_law_1168 : decode cL_law 1168 = .ok (.iadd, 1) := by decide +kernel
theorem dL_law_1169 : decode cL_law 1169 = .ok (.iaload, 1) := by decide +kernel
theorem dL_law_1170 : decode cL_law 1170 = .ok (.aload_n 0, 1) := by decide +kernel
theorem dL_law_1171 : decode cL_law 1171 = .ok (.iload_n 3, 1) := by decide +kernel
theorem dL_law_1172 : decode cL_law 1172 = .ok (.iconst 3, 1) := by decide +kernel
theorem dL_law_1173 : decode cL_law 1173 = .ok (.iadd, 1) := by decide +kernel
theorem dL_law_1174 : decode cL_law 1174 = .ok (.iaload, 1) := by decide +kernel
theorem dL_law_1175 : decode cL_law 1175 = .ok (.invokevirtual 149, 3) := by decide +kernel
theorem dL_law_1178 : decode cL_law 1178 = .ok (.if_icmp .eq 94, 3) := by decide +kernel
theorem dL_law_1181 : decode cL_law 1181 = .ok (.iconst 0, 1) := by decide +kernel
theorem dL_law_1182 : decode cL_law 1182 = .ok (.ireturn, 1) := by decide +kernel
theorem dL_law_1183 : decode cL_law 1183 = .ok (.aload_n 1, 1) := by decide +kernel
theorem dL_law_1184 : decode cL_law 1184 = .ok (.aload_n 0, 1) := by decide +kernel
theorem dL_law_1185 : decode cL_law 1185 = .ok (.iload_n 3, 1) := by decide +kernel
theorem dL_law_1186 : decode cL_law 1186 = .ok (.iconst 1, 1) := by decide +kernel
theorem dL_law_1187 : decode cL_law 1187 = .ok (.iadd, 1) := by decide +kernel
theorem dL_law_1188 : decode cL_law 1188 = .ok (.iaload, 1) := by decide +kernel
theorem dL_law_1189 : decode cL_law 1189 = .ok (.aload_n 0, 1) := by decide +kernel
theorem dL_law_1190 : decode cL_law 1190 = .ok (.iload_n 3, 1) := by decide +kernel
theorem dL_law_1191 : decode cL_law 1191 = .ok (.iconst 2, 1) := by decide +kernel
theorem dL_law_1192 : decode cL_law 1192 = .ok (.iadd, 1) := by decide +kernel
theorem dL_law_1193 : decode cL_law 1193 = .ok (.iaload, 1) := by decide +kernel
theorem dL_law_1194 : decode cL_law 1194 = .ok (.aload_n 0, 1) := by decide +kernel
theorem dL_law_1195 : decode cL_law 1195 = .ok (.iload_n 3, 1) := by decide +kernel
theorem dL_law_1196 : decode cL_law 1196 = .ok (.iconst 3, 1) := by decide +kernel
theorem dL_law_1197 : decode cL_law 1197 = .ok (.iadd, 1) := by decide +kernel
theorem dL_law_1198 : decode cL_law 1198 = .ok (.iaload, 1) := by decide +kernel
theorem dL_law_1199 : decode cL_law 1199 = .ok (.aload_n 0, 1) := by decide +kernel
theorem dL_law_1200 : decode cL_law 1200 = .ok (.iload_n 3, 1) := by decide +kernel
theorem dL_law_1201 : decode cL_law 1201 = .ok (.iconst 4, 1) := by decide +kernel
theorem dL_law_1202 : decode cL_law 1202 = .ok (.iadd, 1) := by decide +kernel
theorem dL_law_1203 : decode cL_law 1203 = .ok (.iaload, 1) := by decide +kernel
theorem dL_law_1204 : decode cL_law 1204 = .ok (.invokevirtual 150, 3) := by decide +kernel
theorem dL_law_1207 : decode cL_law 1207 = .ok (.aload_n 2, 1) := by decide +kernel
theorem dL_law_1208 : decode cL_law 1208 = .ok (.aload_n 0, 1) := by decide +kernel
theorem dL_law_1209 : decode cL_law 1209 = .ok (.iload_n 3, 1) := by decide +kernel
theorem dL_law_1210 : decode cL_law 1210 = .ok (.iconst 1, 1) := by decide +kernel
theorem dL_law_1211 : decode cL_law 1211 = .ok (.iadd, 1) := by decide +kernel
theorem dL_law_1212 : decode cL_law 1212 = .ok (.iaload, 1) := by decide +kernel
theorem dL_law_1213 : decode cL_law 1213 = .ok (.aload_n 0, 1) := by decide +kernel
theorem dL_law_1214 : decode cL_law 1214 = .ok (.iload_n 3, 1) := by decide +kernel
theorem dL_law_1215 : decode cL_law 1215 = .ok (.iconst 2, 1) := by decide +kernel
theorem dL_law_1216 : decode cL_law 1216 = .ok (.iadd, 1) := by decide +kernel
theorem dL_law_1217 : decode cL_law 1217 = .ok (.iaload, 1) := by decide +kernel
theorem dL_law_1218 : decode cL_law 1218 = .ok (.aload_n 0, 1) := by decide +kernel
theorem dL_law_1219 : decode cL_law 1219 = .ok (.iload_n 3, 1) := by decide +kernel
theorem dL_law_1220 : decode cL_law 1220 = .ok (.iconst 3, 1) := by decide +kernel
theorem dL_law_1221 : decode cL_law 1221 = .ok (.iadd, 1) := by decide +kernel
theorem dL_law_1222 : decode cL_law 1222 = .ok (.iaload, 1) := by decide +kernel
theorem dL_law_1223 : decode cL_law 1223 = .ok (.aload_n 0, 1) := by decide +kernel
theorem dL_law_1224 : decode cL_law 1224 = .ok (.iload_n 3, 1) := by decide +kernel
theorem dL_law_1225 : decode cL_law 1225 = .ok (.iconst 4, 1) := by decide +kernel
theorem dL_law_1226 : decode cL_law 1226 = .ok (.iadd, 1) := by decide +kernel
theorem dL_law_1227 : decode cL_law 1227 = .ok (.iaload, 1) := by decide +kernel
theorem dL_law_1228 : decode cL_law 1228 = .ok (.invokevirtual 154, 3) := by decide +kernel
theorem dL_law_1231 : decode cL_law 1231 = .ok (.if_icmp .eq 41, 3) := by decide +kernel
theorem dL_law_1234 : decode cL_law 1234 = .ok (.iconst 0, 1) := by decide +kernel
theorem dL_law_1235 : decode cL_law 1235 = .ok (.ireturn, 1) := by decide +kernel
theorem dL_law_1236 : decode cL_law 1236 = .ok (.aload_n 1, 1) := by decide +kernel
theorem dL_law_1237 : decode cL_law 1237 = .ok (.invokevirtual 155, 3) := by decide +kernel
theorem dL_law_1240 : decode cL_law 1240 = .ok (.aload_n 2, 1) := by decide +kernel
theorem dL_law_1241 : decode cL_law 1241 = .ok (.invokevirtual 158, 3) := by decide +kernel
theorem dL_law_1244 : decode cL_law 1244 = .ok (.if_icmp .eq 28, 3) := by decide +kernel
theorem dL_law_1247 : decode cL_law 1247 = .ok (.iconst 0, 1) := by decide +kernel
theorem dL_law_1248 : decode cL_law 1248 = .ok (.ireturn, 1) := by decide +kernel
theorem dL_law_1249 : decode cL_law 1249 = .ok (.aload_n 1, 1) := by decide +kernel
theorem dL_law_1250 : decode cL_law 1250 = .ok (.aload_n 0, 1) := by decide +kernel
theorem dL_law_1251 : decode cL_law 1251 = .ok (.iload_n 3, 1) := by decide +kernel
theorem dL_law_1252 : decode cL_law 1252 = .ok (.iconst 1, 1) := by decide +kernel
theorem dL_law_1253 : decode cL_law 1253 = .ok (.iadd, 1) := by decide +kernel
theorem dL_law_1254 : decode cL_law 1254 = .ok (.iaload, 1) := by decide +kernel
theorem dL_law_1255 : decode cL_law 1255 = .ok (.invokevirtual 159, 3) := by decide +kernel
theorem dL_law_1258 : decode cL_law 1258 = .ok (.aload_n 2, 1) := by decide +kernel
theorem dL_law_1259 : decode cL_law 1259 = .ok (.aload_n 0, 1) := by decide +kernel
theorem dL_law_1260 : decode cL_law 1260 = .ok (.iload_n 3, 1) := by decide +kernel
theorem dL_law_1261 : decode cL_law 1261 = .ok (.iconst 1, 1) := by decide +kernel
theorem dL_law_1262 : decode cL_law 1262 = .ok (.iadd, 1) := by decide +kernel
theorem dL_law_1263 : decode cL_law 1263 = .ok (.iaload, 1) := by decide +kernel
theorem dL_law_1264 : decode cL_law 1264 = .ok (.invokevirtual 162, 3) := by decide +kernel
theorem dL_law_1267 : decode cL_law 1267 = .ok (.if_icmp .eq 5, 3) := by decide +kernel
theorem dL_law_1270 : decode cL_law 1270 = .ok (.iconst 0, 1) := by decide +kernel
theorem dL_law_1271 : decode cL_law 1271 = .ok (.ireturn, 1) := by decide +kernel
theorem dL_law_1272 : decode cL_law 1272 = .ok (.iinc 3 5, 3) := by decide +kernel
theorem dL_law_1275 : decode cL_law 1275 = .ok (.goto (-1257), 3) := by decide +kernel
theorem dL_law_1278 : decode cL_law 1278 = .ok (.iconst 1, 1) := by decide +kernel
theorem dL_law_1279 : decode cL_law 1279 = .ok (.ireturn, 1) := by decide +kernel
