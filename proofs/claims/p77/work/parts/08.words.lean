/-- the words that the walks use: those of the tables that stay -/
def gU : List Cond := lw_tbl.filter goodWord
theorem gt_1 : ∀ w ∈ tables_1_1, goodWord w = true → w ∈ gU := fun w h g => List.mem_filter.mpr ⟨List.mem_append_right _ (List.mem_append_left _ h), g⟩
theorem gt_2 : ∀ w ∈ tables_1_2, goodWord w = true → w ∈ gU := fun w h g => List.mem_filter.mpr ⟨List.mem_append_right _ (List.mem_append_right _ (List.mem_append_left _ h)), g⟩
theorem gt_3 : ∀ w ∈ tables_1_3, goodWord w = true → w ∈ gU := fun w h g => List.mem_filter.mpr ⟨List.mem_append_right _ (List.mem_append_right _ (List.mem_append_right _ (List.mem_append_left _ h))), g⟩
theorem gt_4 : ∀ w ∈ tables_1_4, goodWord w = true → w ∈ gU := fun w h g => List.mem_filter.mpr ⟨List.mem_append_right _ (List.mem_append_right _ (List.mem_append_right _ (List.mem_append_right _ (h)))), g⟩
theorem gt_s : ∀ w ∈ k2_sels lw_privs, goodWord w = true → w ∈ gU := fun w h g => List.mem_filter.mpr ⟨List.mem_append_left _ h, g⟩
theorem gU_in : ∀ w ∈ gU, w ∈ lw_tbl := fun w h => (List.mem_filter.mp h).1
theorem gU_good : ∀ w ∈ gU, w ∈ gU ∧ ((w.onTables && w.keeps) = true ∨ ∃ ty, w = .arrayClass ty) := fun w h => ⟨h, good_of_word (List.mem_filter.mp h).2⟩
theorem q1_0 : Cond.initialized RL ∈ gU := gt_1 _ (List.mem_of_getElem? (i := 0) rfl) rfl
theorem q1_1 : Cond.initialized RX6 ∈ gU := gt_1 _ (List.mem_of_getElem? (i := 1) rfl) rfl
theorem q1_2 : Cond.initialized RX0 ∈ gU := gt_1 _ (List.mem_of_getElem? (i := 2) rfl) rfl
theorem q1_3 : Cond.initialized RX1 ∈ gU := gt_1 _ (List.mem_of_getElem? (i := 3) rfl) rfl
theorem q1_4 : Cond.initialized RX3 ∈ gU := gt_1 _ (List.mem_of_getElem? (i := 4) rfl) rfl
theorem q1_5 : Cond.initialized RX4 ∈ gU := gt_1 _ (List.mem_of_getElem? (i := 5) rfl) rfl
theorem q1_6 : Cond.initialized "java/lang/Throwable" ∈ gU := gt_1 _ (List.mem_of_getElem? (i := 6) rfl) rfl
theorem q1_7 : Cond.initialized "java/lang/Exception" ∈ gU := gt_1 _ (List.mem_of_getElem? (i := 7) rfl) rfl
theorem q1_8 : Cond.initialized "java/lang/RuntimeException" ∈ gU := gt_1 _ (List.mem_of_getElem? (i := 8) rfl) rfl
theorem q1_9 : Cond.initialized "java/lang/IndexOutOfBoundsException" ∈ gU := gt_1 _ (List.mem_of_getElem? (i := 9) rfl) rfl
theorem q1_10 : Cond.initialized RX5 ∈ gU := gt_1 _ (List.mem_of_getElem? (i := 10) rfl) rfl
theorem q1_11 : Cond.initialized RJ9 ∈ gU := gt_1 _ (List.mem_of_getElem? (i := 11) rfl) rfl
theorem q1_12 : Cond.initialized "java/lang/IllegalStateException" ∈ gU := gt_1 _ (List.mem_of_getElem? (i := 12) rfl) rfl
theorem q1_13 : Cond.initialized RJ6 ∈ gU := gt_1 _ (List.mem_of_getElem? (i := 13) rfl) rfl
theorem q1_14 : Cond.initialized "java/lang/IllegalArgumentException" ∈ gU := gt_1 _ (List.mem_of_getElem? (i := 14) rfl) rfl
theorem q1_15 : Cond.initialized RJ10 ∈ gU := gt_1 _ (List.mem_of_getElem? (i := 15) rfl) rfl
theorem q1_16 : Cond.classLink RL 13 RX6 ∈ gU := gt_1 _ (List.mem_of_getElem? (i := 16) rfl) rfl
theorem q1_17 : Cond.instantiable RX6 5 ∈ gU := gt_1 _ (List.mem_of_getElem? (i := 17) rfl) rfl
theorem q1_18 : Cond.methodLink RL 168 yX6_init ∈ gU := gt_1 _ (List.mem_of_getElem? (i := 18) rfl) rfl
theorem q1_19 : Cond.instanceMethod yX6_init ∈ gU := gt_1 _ (List.mem_of_getElem? (i := 19) rfl) rfl
theorem q1_20 : Cond.code yX6_init cX6_init 1 none ∈ gU := gt_1 _ (List.mem_of_getElem? (i := 20) rfl) rfl
theorem q1_21 : Cond.methodLink RX6 3 objectInit ∈ gU := gt_1 _ (List.mem_of_getElem? (i := 21) rfl) rfl
theorem q1_22 : Cond.instanceMethod objectInit ∈ gU := gt_1 _ (List.mem_of_getElem? (i := 22) rfl) rfl
theorem q1_23 : Cond.code objectInit object_method_1_code 1 none ∈ gU := gt_1 _ (List.mem_of_getElem? (i := 23) rfl) rfl
theorem q1_24 : Cond.classLink RX6 9 RX0 ∈ gU := gt_1 _ (List.mem_of_getElem? (i := 24) rfl) rfl
theorem q1_25 : Cond.instantiable RX0 17 ∈ gU := gt_1 _ (List.mem_of_getElem? (i := 25) rfl) rfl
theorem q1_26 : Cond.methodLink RX6 11 yX0_init ∈ gU := gt_1 _ (List.mem_of_getElem? (i := 26) rfl) rfl
theorem q1_27 : Cond.instanceMethod yX0_init ∈ gU := gt_1 _ (List.mem_of_getElem? (i := 27) rfl) rfl
theorem q1_28 : Cond.code yX0_init cX0_init 2 none ∈ gU := gt_1 _ (List.mem_of_getElem? (i := 28) rfl) rfl
theorem q1_29 : Cond.methodLink RX0 3 objectInit ∈ gU := gt_1 _ (List.mem_of_getElem? (i := 29) rfl) rfl
theorem q1_30 : Cond.fieldLink RX1 24 RX0 "ticketCount" "I" ∈ gU := gt_1 _ (List.mem_of_getElem? (i := 30) rfl) rfl
theorem q1_31 : Cond.fieldLink RX0 51 RX0 "ticketCount" "I" ∈ gU := gt_1 _ (List.mem_of_getElem? (i := 31) rfl) rfl
theorem q1_32 : Cond.fieldLink RX5 72 RX0 "ticketCount" "I" ∈ gU := gt_1 _ (List.mem_of_getElem? (i := 32) rfl) rfl
theorem q1_33 : Cond.fieldLink RX6 221 RX0 "ticketCount" "I" ∈ gU := gt_1 _ (List.mem_of_getElem? (i := 33) rfl) rfl
theorem q1_34 : Cond.fieldLink RX0 55 RX0 "today" "I" ∈ gU := gt_1 _ (List.mem_of_getElem? (i := 34) rfl) rfl
theorem q1_35 : Cond.fieldLink RX5 52 RX0 "today" "I" ∈ gU := gt_1 _ (List.mem_of_getElem? (i := 35) rfl) rfl
theorem q1_36 : Cond.fieldLink RX6 309 RX0 "today" "I" ∈ gU := gt_1 _ (List.mem_of_getElem? (i := 36) rfl) rfl
theorem q1_37 : Cond.fieldLink RX0 58 RX0 "closingCount" "I" ∈ gU := gt_1 _ (List.mem_of_getElem? (i := 37) rfl) rfl
theorem q1_38 : Cond.fieldLink RX6 198 RX0 "closingCount" "I" ∈ gU := gt_1 _ (List.mem_of_getElem? (i := 38) rfl) rfl
theorem q1_39 : Cond.fieldLink RX0 61 RX0 "reopeningCount" "I" ∈ gU := gt_1 _ (List.mem_of_getElem? (i := 39) rfl) rfl
theorem q1_40 : Cond.fieldLink RX6 322 RX0 "reopeningCount" "I" ∈ gU := gt_1 _ (List.mem_of_getElem? (i := 40) rfl) rfl
theorem q1_41 : Cond.fieldLink RX0 9 RX0 "states" "[I" ∈ gU := gt_1 _ (List.mem_of_getElem? (i := 41) rfl) rfl
theorem q1_42 : Cond.fieldLink RX6 105 RX0 "states" "[I" ∈ gU := gt_1 _ (List.mem_of_getElem? (i := 42) rfl) rfl
theorem q1_43 : Cond.fieldLink RX5 75 RX0 "states" "[I" ∈ gU := gt_1 _ (List.mem_of_getElem? (i := 43) rfl) rfl
theorem q1_44 : Cond.fieldLink RX0 15 RX0 "points" "[I" ∈ gU := gt_1 _ (List.mem_of_getElem? (i := 44) rfl) rfl
theorem q1_45 : Cond.fieldLink RX1 53 RX0 "points" "[I" ∈ gU := gt_1 _ (List.mem_of_getElem? (i := 45) rfl) rfl
theorem q1_46 : Cond.fieldLink RX5 81 RX0 "points" "[I" ∈ gU := gt_1 _ (List.mem_of_getElem? (i := 46) rfl) rfl
theorem q1_47 : Cond.fieldLink RX6 224 RX0 "points" "[I" ∈ gU := gt_1 _ (List.mem_of_getElem? (i := 47) rfl) rfl
theorem q1_48 : Cond.fieldLink RX0 18 RX0 "priorities" "[I" ∈ gU := gt_1 _ (List.mem_of_getElem? (i := 48) rfl) rfl
theorem q1_49 : Cond.fieldLink RX6 227 RX0 "priorities" "[I" ∈ gU := gt_1 _ (List.mem_of_getElem? (i := 49) rfl) rfl
theorem q1_50 : Cond.fieldLink RX0 21 RX0 "owners" "[I" ∈ gU := gt_1 _ (List.mem_of_getElem? (i := 50) rfl) rfl
theorem q1_51 : Cond.fieldLink RX6 101 RX0 "owners" "[I" ∈ gU := gt_1 _ (List.mem_of_getElem? (i := 51) rfl) rfl
theorem q1_52 : Cond.fieldLink RX0 24 RX0 "milestones" "[I" ∈ gU := gt_1 _ (List.mem_of_getElem? (i := 52) rfl) rfl
theorem q1_53 : Cond.fieldLink RX6 124 RX0 "milestones" "[I" ∈ gU := gt_1 _ (List.mem_of_getElem? (i := 53) rfl) rfl
theorem q1_54 : Cond.fieldLink RX0 27 RX0 "openingDays" "[I" ∈ gU := gt_1 _ (List.mem_of_getElem? (i := 54) rfl) rfl
theorem q1_55 : Cond.fieldLink RX0 30 RX0 "closingDays" "[I" ∈ gU := gt_1 _ (List.mem_of_getElem? (i := 55) rfl) rfl
theorem q1_56 : Cond.fieldLink RX5 78 RX0 "closingDays" "[I" ∈ gU := gt_1 _ (List.mem_of_getElem? (i := 56) rfl) rfl
theorem q1_57 : Cond.fieldLink RX0 33 RX0 "progressDays" "[I" ∈ gU := gt_1 _ (List.mem_of_getElem? (i := 57) rfl) rfl
theorem q1_58 : Cond.fieldLink RX5 84 RX0 "progressDays" "[I" ∈ gU := gt_1 _ (List.mem_of_getElem? (i := 58) rfl) rfl
theorem q1_59 : Cond.fieldLink RX6 236 RX0 "progressDays" "[I" ∈ gU := gt_1 _ (List.mem_of_getElem? (i := 59) rfl) rfl
theorem q1_60 : Cond.fieldLink RX0 36 RX0 "putBackCounts" "[I" ∈ gU := gt_1 _ (List.mem_of_getElem? (i := 60) rfl) rfl
theorem q1_61 : Cond.fieldLink RX6 239 RX0 "putBackCounts" "[I" ∈ gU := gt_1 _ (List.mem_of_getElem? (i := 61) rfl) rfl
theorem q1_62 : Cond.fieldLink RX0 39 RX0 "needSets" "[I" ∈ gU := gt_1 _ (List.mem_of_getElem? (i := 62) rfl) rfl
theorem q1_63 : Cond.fieldLink RX1 30 RX0 "needSets" "[I" ∈ gU := gt_1 _ (List.mem_of_getElem? (i := 63) rfl) rfl
theorem q1_64 : Cond.fieldLink RX6 242 RX0 "needSets" "[I" ∈ gU := gt_1 _ (List.mem_of_getElem? (i := 64) rfl) rfl
theorem q1_65 : Cond.fieldLink RX0 42 RX0 "capacities" "[I" ∈ gU := gt_1 _ (List.mem_of_getElem? (i := 65) rfl) rfl
theorem q1_66 : Cond.fieldLink RX6 266 RX0 "capacities" "[I" ∈ gU := gt_1 _ (List.mem_of_getElem? (i := 66) rfl) rfl
theorem q1_67 : Cond.fieldLink RX0 45 RX0 "loads" "[I" ∈ gU := gt_1 _ (List.mem_of_getElem? (i := 67) rfl) rfl
theorem q1_68 : Cond.fieldLink RX6 112 RX0 "loads" "[I" ∈ gU := gt_1 _ (List.mem_of_getElem? (i := 68) rfl) rfl
theorem q1_69 : Cond.fieldLink RX0 48 RX0 "dates" "[I" ∈ gU := gt_1 _ (List.mem_of_getElem? (i := 69) rfl) rfl
theorem q1_70 : Cond.fieldLink RX5 56 RX0 "dates" "[I" ∈ gU := gt_1 _ (List.mem_of_getElem? (i := 70) rfl) rfl
theorem q1_71 : Cond.fieldLink RX6 281 RX0 "dates" "[I" ∈ gU := gt_1 _ (List.mem_of_getElem? (i := 71) rfl) rfl
theorem q1_72 : Cond.lays RX0 RX0 "ticketCount" "I" ∈ gU := gt_1 _ (List.mem_of_getElem? (i := 72) rfl) rfl
theorem q1_74 : Cond.lays RX0 RX0 "today" "I" ∈ gU := gt_1 _ (List.mem_of_getElem? (i := 74) rfl) rfl
theorem q1_76 : Cond.lays RX0 RX0 "closingCount" "I" ∈ gU := gt_1 _ (List.mem_of_getElem? (i := 76) rfl) rfl
theorem q1_78 : Cond.lays RX0 RX0 "reopeningCount" "I" ∈ gU := gt_1 _ (List.mem_of_getElem? (i := 78) rfl) rfl
theorem q1_80 : Cond.laysFinal RX0 RX0 "states" "[I" ∈ gU := gt_1 _ (List.mem_of_getElem? (i := 80) rfl) rfl
theorem q1_82 : Cond.laysFinal RX0 RX0 "points" "[I" ∈ gU := gt_1 _ (List.mem_of_getElem? (i := 82) rfl) rfl
theorem q1_84 : Cond.laysFinal RX0 RX0 "priorities" "[I" ∈ gU := gt_1 _ (List.mem_of_getElem? (i := 84) rfl) rfl
theorem q1_86 : Cond.laysFinal RX0 RX0 "owners" "[I" ∈ gU := gt_1 _ (List.mem_of_getElem? (i := 86) rfl) rfl
theorem q1_88 : Cond.laysFinal RX0 RX0 "milestones" "[I" ∈ gU := gt_1 _ (List.mem_of_getElem? (i := 88) rfl) rfl
theorem q1_90 : Cond.laysFinal RX0 RX0 "openingDays" "[I" ∈ gU := gt_1 _ (List.mem_of_getElem? (i := 90) rfl) rfl
theorem q1_92 : Cond.laysFinal RX0 RX0 "closingDays" "[I" ∈ gU := gt_1 _ (List.mem_of_getElem? (i := 92) rfl) rfl
theorem q1_94 : Cond.laysFinal RX0 RX0 "progressDays" "[I" ∈ gU := gt_1 _ (List.mem_of_getElem? (i := 94) rfl) rfl
theorem q1_96 : Cond.laysFinal RX0 RX0 "putBackCounts" "[I" ∈ gU := gt_1 _ (List.mem_of_getElem? (i := 96) rfl) rfl
theorem q1_98 : Cond.laysFinal RX0 RX0 "needSets" "[I" ∈ gU := gt_1 _ (List.mem_of_getElem? (i := 98) rfl) rfl
theorem q1_100 : Cond.laysFinal RX0 RX0 "capacities" "[I" ∈ gU := gt_1 _ (List.mem_of_getElem? (i := 100) rfl) rfl
theorem q1_102 : Cond.laysFinal RX0 RX0 "loads" "[I" ∈ gU := gt_1 _ (List.mem_of_getElem? (i := 102) rfl) rfl
theorem q1_104 : Cond.laysFinal RX0 RX0 "dates" "[I" ∈ gU := gt_1 _ (List.mem_of_getElem? (i := 104) rfl) rfl
theorem q1_107 : Cond.arrayClass .int ∈ gU := gt_1 _ (List.mem_of_getElem? (i := 107) rfl) rfl
theorem q1_108 : Cond.classLink RX6 19 RX1 ∈ gU := gt_1 _ (List.mem_of_getElem? (i := 108) rfl) rfl
theorem q1_109 : Cond.instantiable RX1 4 ∈ gU := gt_1 _ (List.mem_of_getElem? (i := 109) rfl) rfl
theorem q1_111 : Cond.instanceMethod yX1_init ∈ gU := gt_1 _ (List.mem_of_getElem? (i := 111) rfl) rfl
theorem q1_112 : Cond.code yX1_init cX1_init 1 none ∈ gU := gt_1 _ (List.mem_of_getElem? (i := 112) rfl) rfl
theorem q1_113 : Cond.methodLink RX1 3 objectInit ∈ gU := gt_1 _ (List.mem_of_getElem? (i := 113) rfl) rfl
theorem q1_114 : Cond.fieldLink RX1 9 RX1 "table" "[I" ∈ gU := gt_1 _ (List.mem_of_getElem? (i := 114) rfl) rfl
theorem q1_115 : Cond.fieldLink RX1 15 RX1 "triedBests" "[I" ∈ gU := gt_1 _ (List.mem_of_getElem? (i := 115) rfl) rfl
theorem q1_116 : Cond.fieldLink RX1 18 RX1 "orderedBests" "[I" ∈ gU := gt_1 _ (List.mem_of_getElem? (i := 116) rfl) rfl
theorem q1_117 : Cond.fieldLink RX1 21 RX1 "closingOrder" "[I" ∈ gU := gt_1 _ (List.mem_of_getElem? (i := 117) rfl) rfl
theorem q1_118 : Cond.laysFinal RX1 RX1 "table" "[I" ∈ gU := gt_1 _ (List.mem_of_getElem? (i := 118) rfl) rfl
theorem q1_120 : Cond.laysFinal RX1 RX1 "triedBests" "[I" ∈ gU := gt_1 _ (List.mem_of_getElem? (i := 120) rfl) rfl
theorem q1_122 : Cond.laysFinal RX1 RX1 "orderedBests" "[I" ∈ gU := gt_1 _ (List.mem_of_getElem? (i := 122) rfl) rfl
theorem q1_124 : Cond.laysFinal RX1 RX1 "closingOrder" "[I" ∈ gU := gt_1 _ (List.mem_of_getElem? (i := 124) rfl) rfl
theorem q1_127 : Cond.classLink RX6 26 RX3 ∈ gU := gt_1 _ (List.mem_of_getElem? (i := 127) rfl) rfl
theorem q1_128 : Cond.instantiable RX3 5 ∈ gU := gt_1 _ (List.mem_of_getElem? (i := 128) rfl) rfl
theorem q1_129 : Cond.methodLink RX6 28 yX3_init ∈ gU := gt_1 _ (List.mem_of_getElem? (i := 129) rfl) rfl
theorem q1_130 : Cond.instanceMethod yX3_init ∈ gU := gt_1 _ (List.mem_of_getElem? (i := 130) rfl) rfl
theorem q1_131 : Cond.code yX3_init cX3_init 2 none ∈ gU := gt_1 _ (List.mem_of_getElem? (i := 131) rfl) rfl
theorem q1_132 : Cond.methodLink RX3 3 objectInit ∈ gU := gt_1 _ (List.mem_of_getElem? (i := 132) rfl) rfl
theorem q1_133 : Cond.classLink RX3 9 RX0 ∈ gU := gt_1 _ (List.mem_of_getElem? (i := 133) rfl) rfl
theorem q1_135 : Cond.methodLink RX3 24 yX0_init ∈ gU := gt_1 _ (List.mem_of_getElem? (i := 135) rfl) rfl
theorem q1_136 : Cond.fieldLink RX3 11 RX3 "saved" "[LTicketChains$Board;" ∈ gU := gt_1 _ (List.mem_of_getElem? (i := 136) rfl) rfl
theorem q1_137 : Cond.fieldLink RX3 29 RX3 "oldest" "I" ∈ gU := gt_1 _ (List.mem_of_getElem? (i := 137) rfl) rfl
theorem q1_138 : Cond.fieldLink RX3 25 RX3 "count" "I" ∈ gU := gt_1 _ (List.mem_of_getElem? (i := 138) rfl) rfl
theorem q1_139 : Cond.fieldLink RX3 17 RX3 "slots" "[LTicketChains$Board;" ∈ gU := gt_1 _ (List.mem_of_getElem? (i := 139) rfl) rfl
theorem q1_140 : Cond.fieldLink RX3 20 RX3 "kept" "[Z" ∈ gU := gt_1 _ (List.mem_of_getElem? (i := 140) rfl) rfl
theorem q1_141 : Cond.laysFinal RX3 RX3 "saved" "[LTicketChains$Board;" ∈ gU := gt_1 _ (List.mem_of_getElem? (i := 141) rfl) rfl
theorem q1_143 : Cond.lays RX3 RX3 "oldest" "I" ∈ gU := gt_1 _ (List.mem_of_getElem? (i := 143) rfl) rfl
theorem q1_145 : Cond.lays RX3 RX3 "count" "I" ∈ gU := gt_1 _ (List.mem_of_getElem? (i := 145) rfl) rfl
theorem q1_147 : Cond.laysFinal RX3 RX3 "slots" "[LTicketChains$Board;" ∈ gU := gt_1 _ (List.mem_of_getElem? (i := 147) rfl) rfl
theorem q1_149 : Cond.laysFinal RX3 RX3 "kept" "[Z" ∈ gU := gt_1 _ (List.mem_of_getElem? (i := 149) rfl) rfl
theorem q1_152 : Cond.arrayClass .boolean ∈ gU := gt_1 _ (List.mem_of_getElem? (i := 152) rfl) rfl
theorem q1_153 : Cond.classLink RX6 33 RX4 ∈ gU := gt_1 _ (List.mem_of_getElem? (i := 153) rfl) rfl
theorem q1_154 : Cond.instantiable RX4 7 ∈ gU := gt_1 _ (List.mem_of_getElem? (i := 154) rfl) rfl
theorem q1_156 : Cond.instanceMethod yX4_init ∈ gU := gt_1 _ (List.mem_of_getElem? (i := 156) rfl) rfl
theorem q1_157 : Cond.code yX4_init cX4_init 1 none ∈ gU := gt_1 _ (List.mem_of_getElem? (i := 157) rfl) rfl
theorem q1_158 : Cond.methodLink RX4 3 objectInit ∈ gU := gt_1 _ (List.mem_of_getElem? (i := 158) rfl) rfl
theorem q1_159 : Cond.fieldLink RX4 9 RX4 "signs" "[C" ∈ gU := gt_1 _ (List.mem_of_getElem? (i := 159) rfl) rfl
theorem q1_160 : Cond.fieldLink RX4 15 RX4 "kinds" "[C" ∈ gU := gt_1 _ (List.mem_of_getElem? (i := 160) rfl) rfl
theorem q1_161 : Cond.fieldLink RX4 18 RX4 "firsts" "[I" ∈ gU := gt_1 _ (List.mem_of_getElem? (i := 161) rfl) rfl
theorem q1_162 : Cond.fieldLink RX4 22 RX4 "seconds" "[I" ∈ gU := gt_1 _ (List.mem_of_getElem? (i := 162) rfl) rfl
theorem q1_163 : Cond.laysFinal RX4 RX4 "signs" "[C" ∈ gU := gt_1 _ (List.mem_of_getElem? (i := 163) rfl) rfl
theorem q1_165 : Cond.lays RX4 RX4 "length" "I" ∈ gU := gt_1 _ (List.mem_of_getElem? (i := 165) rfl) rfl
theorem q1_167 : Cond.lays RX4 RX4 "at" "I" ∈ gU := gt_1 _ (List.mem_of_getElem? (i := 167) rfl) rfl
theorem q1_169 : Cond.laysFinal RX4 RX4 "kinds" "[C" ∈ gU := gt_1 _ (List.mem_of_getElem? (i := 169) rfl) rfl
theorem q1_171 : Cond.laysFinal RX4 RX4 "firsts" "[I" ∈ gU := gt_1 _ (List.mem_of_getElem? (i := 171) rfl) rfl
theorem q1_173 : Cond.laysFinal RX4 RX4 "seconds" "[I" ∈ gU := gt_1 _ (List.mem_of_getElem? (i := 173) rfl) rfl
theorem q1_175 : Cond.lays RX4 RX4 "orderCount" "I" ∈ gU := gt_1 _ (List.mem_of_getElem? (i := 175) rfl) rfl
theorem q1_178 : Cond.arrayClass .char ∈ gU := gt_1 _ (List.mem_of_getElem? (i := 178) rfl) rfl
theorem q1_179 : Cond.fieldLink RX6 12 RX6 "board" "LTicketChains$Board;" ∈ gU := gt_1 _ (List.mem_of_getElem? (i := 179) rfl) rfl
theorem q1_180 : Cond.fieldLink RX6 16 RX6 "trial" "LTicketChains$Board;" ∈ gU := gt_1 _ (List.mem_of_getElem? (i := 180) rfl) rfl
theorem q1_181 : Cond.fieldLink RX6 22 RX6 "chains" "LTicketChains$Chains;" ∈ gU := gt_1 _ (List.mem_of_getElem? (i := 181) rfl) rfl
theorem q1_182 : Cond.fieldLink RX6 29 RX6 "history" "LTicketChains$History;" ∈ gU := gt_1 _ (List.mem_of_getElem? (i := 182) rfl) rfl
theorem q1_183 : Cond.fieldLink RX6 36 RX6 "text" "LTicketChains$OrderText;" ∈ gU := gt_1 _ (List.mem_of_getElem? (i := 183) rfl) rfl
theorem q1_184 : Cond.laysFinal RX6 RX6 "board" "LTicketChains$Board;" ∈ gU := gt_1 _ (List.mem_of_getElem? (i := 184) rfl) rfl
theorem q1_186 : Cond.laysFinal RX6 RX6 "trial" "LTicketChains$Board;" ∈ gU := gt_1 _ (List.mem_of_getElem? (i := 186) rfl) rfl
theorem q1_188 : Cond.laysFinal RX6 RX6 "chains" "LTicketChains$Chains;" ∈ gU := gt_1 _ (List.mem_of_getElem? (i := 188) rfl) rfl
theorem q1_190 : Cond.laysFinal RX6 RX6 "history" "LTicketChains$History;" ∈ gU := gt_1 _ (List.mem_of_getElem? (i := 190) rfl) rfl
theorem q1_192 : Cond.laysFinal RX6 RX6 "text" "LTicketChains$OrderText;" ∈ gU := gt_1 _ (List.mem_of_getElem? (i := 192) rfl) rfl
theorem q1_195 : Cond.methodLink RL 187 yX6_undo ∈ gU := gt_1 _ (List.mem_of_getElem? (i := 195) rfl) rfl
theorem q1_196 : Cond.instanceMethod yX6_undo ∈ gU := gt_1 _ (List.mem_of_getElem? (i := 196) rfl) rfl
theorem q1_197 : Cond.selects RX6 yX6_undo yX6_undo ∈ gU := gt_1 _ (List.mem_of_getElem? (i := 197) rfl) rfl
theorem q1_198 : Cond.code yX6_undo cX6_undo 1 none ∈ gU := gt_1 _ (List.mem_of_getElem? (i := 198) rfl) rfl
theorem q1_199 : Cond.methodLink RX6 215 yX3_savedCount ∈ gU := gt_1 _ (List.mem_of_getElem? (i := 199) rfl) rfl
theorem q1_200 : Cond.instanceMethod yX3_savedCount ∈ gU := gt_1 _ (List.mem_of_getElem? (i := 200) rfl) rfl
theorem q1_201 : Cond.selects RX3 yX3_savedCount yX3_savedCount ∈ gU := gt_1 _ (List.mem_of_getElem? (i := 201) rfl) rfl
theorem q1_202 : Cond.code yX3_savedCount cX3_savedCount 1 (some .int) ∈ gU := gt_1 _ (List.mem_of_getElem? (i := 202) rfl) rfl
theorem q1_203 : Cond.methodLink RX6 52 yX6_requireState ∈ gU := gt_1 _ (List.mem_of_getElem? (i := 203) rfl) rfl
theorem q1_204 : Cond.static yX6_requireState ∈ gU := gt_1 _ (List.mem_of_getElem? (i := 204) rfl) rfl
theorem q1_205 : Cond.code yX6_requireState cX6_requireState 1 none ∈ gU := gt_1 _ (List.mem_of_getElem? (i := 205) rfl) rfl
theorem q1_206 : Cond.classLink RX6 386 "java/lang/IllegalStateException" ∈ gU := gt_1 _ (List.mem_of_getElem? (i := 206) rfl) rfl
theorem q1_207 : Cond.instantiable "java/lang/IllegalStateException" 6 ∈ gU := gt_1 _ (List.mem_of_getElem? (i := 207) rfl) rfl
theorem q1_215 : Cond.selects "java/lang/IllegalStateException" (⟨"java/lang/Throwable", "fillInStackTrace", "(I)Ljava/lang/Throwable;"⟩ : MethodName) (⟨"java/lang/Throwable", "fillInStackTrace", "(I)Ljava/lang/Throwable;"⟩ : MethodName) ∈ gU := gt_1 _ (List.mem_of_getElem? (i := 215) rfl) rfl
theorem q1_216 : Cond.selects "java/lang/IllegalStateException" (⟨"java/lang/Throwable", "fillInStackTrace", "()Ljava/lang/Throwable;"⟩ : MethodName) (⟨"java/lang/Throwable", "fillInStackTrace", "()Ljava/lang/Throwable;"⟩ : MethodName) ∈ gU := gt_1 _ (List.mem_of_getElem? (i := 216) rfl) rfl
theorem q1_217 : Cond.lays "java/lang/IllegalStateException" "java/lang/Throwable" "cause" "Ljava/lang/Throwable;" ∈ gU := gt_1 _ (List.mem_of_getElem? (i := 217) rfl) rfl
theorem q1_218 : Cond.lays "java/lang/Throwable" "java/lang/Throwable" "cause" "Ljava/lang/Throwable;" ∈ gU := gt_1 _ (List.mem_of_getElem? (i := 218) rfl) rfl
theorem q1_219 : Cond.lays "java/lang/IllegalStateException" "java/lang/Throwable" "stackTrace" "[Ljava/lang/StackTraceElement;" ∈ gU := gt_1 _ (List.mem_of_getElem? (i := 219) rfl) rfl
theorem q1_220 : Cond.lays "java/lang/Throwable" "java/lang/Throwable" "stackTrace" "[Ljava/lang/StackTraceElement;" ∈ gU := gt_1 _ (List.mem_of_getElem? (i := 220) rfl) rfl
theorem q1_221 : Cond.lays "java/lang/IllegalStateException" "java/lang/Throwable" "suppressedExceptions" "Ljava/util/List;" ∈ gU := gt_1 _ (List.mem_of_getElem? (i := 221) rfl) rfl
theorem q1_222 : Cond.lays "java/lang/Throwable" "java/lang/Throwable" "suppressedExceptions" "Ljava/util/List;" ∈ gU := gt_1 _ (List.mem_of_getElem? (i := 222) rfl) rfl
theorem q1_223 : Cond.lays "java/lang/IllegalStateException" "java/lang/Throwable" "detailMessage" "Ljava/lang/String;" ∈ gU := gt_1 _ (List.mem_of_getElem? (i := 223) rfl) rfl
theorem q1_224 : Cond.lays "java/lang/Throwable" "java/lang/Throwable" "detailMessage" "Ljava/lang/String;" ∈ gU := gt_1 _ (List.mem_of_getElem? (i := 224) rfl) rfl
theorem q1_225 : Cond.lays "java/lang/IllegalStateException" "java/lang/Throwable" "backtrace" "Ljava/lang/Object;" ∈ gU := gt_1 _ (List.mem_of_getElem? (i := 225) rfl) rfl
theorem q1_226 : Cond.lays "java/lang/Throwable" "java/lang/Throwable" "backtrace" "Ljava/lang/Object;" ∈ gU := gt_1 _ (List.mem_of_getElem? (i := 226) rfl) rfl
theorem q1_227 : Cond.fieldLink "java/lang/Throwable" 198 "java/lang/Throwable" "backtrace" "Ljava/lang/Object;" ∈ gU := gt_1 _ (List.mem_of_getElem? (i := 227) rfl) rfl
theorem q1_229 : Cond.instanceMethod (⟨"java/lang/Throwable", "<init>", "()V"⟩ : MethodName) ∈ gU := gt_1 _ (List.mem_of_getElem? (i := 229) rfl) rfl
theorem q1_230 : Cond.code (⟨"java/lang/Throwable", "<init>", "()V"⟩ : MethodName) prog_19_method_1_code 1 none ∈ gU := gt_1 _ (List.mem_of_getElem? (i := 230) rfl) rfl
theorem q1_231 : Cond.methodLink "java/lang/Throwable" 1 objectInit ∈ gU := gt_1 _ (List.mem_of_getElem? (i := 231) rfl) rfl
theorem q1_232 : Cond.fieldLink "java/lang/Throwable" 13 "java/lang/Throwable" "UNASSIGNED_STACK" "[Ljava/lang/StackTraceElement;" ∈ gU := gt_1 _ (List.mem_of_getElem? (i := 232) rfl) rfl
theorem q1_234 : Cond.fieldLink "java/lang/Throwable" 20 "java/lang/Throwable" "SUPPRESSED_SENTINEL" "Ljava/util/List;" ∈ gU := gt_1 _ (List.mem_of_getElem? (i := 234) rfl) rfl
theorem q1_236 : Cond.methodLink "java/lang/Throwable" 27 (⟨"java/lang/Throwable", "fillInStackTrace", "()Ljava/lang/Throwable;"⟩ : MethodName) ∈ gU := gt_1 _ (List.mem_of_getElem? (i := 236) rfl) rfl
theorem q1_237 : Cond.instanceMethod (⟨"java/lang/Throwable", "fillInStackTrace", "()Ljava/lang/Throwable;"⟩ : MethodName) ∈ gU := gt_1 _ (List.mem_of_getElem? (i := 237) rfl) rfl
theorem q1_239 : Cond.selects "java/lang/IllegalArgumentException" (⟨"java/lang/Throwable", "fillInStackTrace", "()Ljava/lang/Throwable;"⟩ : MethodName) (⟨"java/lang/Throwable", "fillInStackTrace", "()Ljava/lang/Throwable;"⟩ : MethodName) ∈ gU := gt_1 _ (List.mem_of_getElem? (i := 239) rfl) rfl
theorem q2_0 : Cond.selects "java/lang/IndexOutOfBoundsException" (⟨"java/lang/Throwable", "fillInStackTrace", "()Ljava/lang/Throwable;"⟩ : MethodName) (⟨"java/lang/Throwable", "fillInStackTrace", "()Ljava/lang/Throwable;"⟩ : MethodName) ∈ gU := gt_2 _ (List.mem_of_getElem? (i := 0) rfl) rfl
theorem q2_2 : Cond.methodLink "java/lang/Throwable" 202 (⟨"java/lang/Throwable", "fillInStackTrace", "(I)Ljava/lang/Throwable;"⟩ : MethodName) ∈ gU := gt_2 _ (List.mem_of_getElem? (i := 2) rfl) rfl
theorem q2_4 : Cond.instanceMethod (⟨"java/lang/Throwable", "fillInStackTrace", "(I)Ljava/lang/Throwable;"⟩ : MethodName) ∈ gU := gt_2 _ (List.mem_of_getElem? (i := 4) rfl) rfl
theorem q2_5 : Cond.instantiable "java/lang/Throwable" 6 ∈ gU := gt_2 _ (List.mem_of_getElem? (i := 5) rfl) rfl
theorem q2_6 : Cond.native (⟨"java/lang/Throwable", "fillInStackTrace", "(I)Ljava/lang/Throwable;"⟩ : MethodName) ∈ gU := gt_2 _ (List.mem_of_getElem? (i := 6) rfl) rfl
theorem q2_8 : Cond.methodLink RX6 390 (⟨"java/lang/IllegalStateException", "<init>", "(Ljava/lang/String;)V"⟩ : MethodName) ∈ gU := gt_2 _ (List.mem_of_getElem? (i := 8) rfl) rfl
theorem q2_9 : Cond.instanceMethod (⟨"java/lang/IllegalStateException", "<init>", "(Ljava/lang/String;)V"⟩ : MethodName) ∈ gU := gt_2 _ (List.mem_of_getElem? (i := 9) rfl) rfl
theorem q2_10 : Cond.code (⟨"java/lang/IllegalStateException", "<init>", "(Ljava/lang/String;)V"⟩ : MethodName) prog_12_method_2_code 2 none ∈ gU := gt_2 _ (List.mem_of_getElem? (i := 10) rfl) rfl
theorem q2_11 : Cond.methodLink "java/lang/IllegalStateException" 7 (⟨"java/lang/RuntimeException", "<init>", "(Ljava/lang/String;)V"⟩ : MethodName) ∈ gU := gt_2 _ (List.mem_of_getElem? (i := 11) rfl) rfl
theorem q2_12 : Cond.instanceMethod (⟨"java/lang/RuntimeException", "<init>", "(Ljava/lang/String;)V"⟩ : MethodName) ∈ gU := gt_2 _ (List.mem_of_getElem? (i := 12) rfl) rfl
theorem q2_13 : Cond.code (⟨"java/lang/RuntimeException", "<init>", "(Ljava/lang/String;)V"⟩ : MethodName) prog_16_method_2_code 2 none ∈ gU := gt_2 _ (List.mem_of_getElem? (i := 13) rfl) rfl
theorem q2_14 : Cond.methodLink "java/lang/RuntimeException" 7 (⟨"java/lang/Exception", "<init>", "(Ljava/lang/String;)V"⟩ : MethodName) ∈ gU := gt_2 _ (List.mem_of_getElem? (i := 14) rfl) rfl
theorem q2_15 : Cond.instanceMethod (⟨"java/lang/Exception", "<init>", "(Ljava/lang/String;)V"⟩ : MethodName) ∈ gU := gt_2 _ (List.mem_of_getElem? (i := 15) rfl) rfl
theorem q2_16 : Cond.code (⟨"java/lang/Exception", "<init>", "(Ljava/lang/String;)V"⟩ : MethodName) prog_10_method_2_code 2 none ∈ gU := gt_2 _ (List.mem_of_getElem? (i := 16) rfl) rfl
theorem q2_17 : Cond.methodLink "java/lang/Exception" 7 (⟨"java/lang/Throwable", "<init>", "(Ljava/lang/String;)V"⟩ : MethodName) ∈ gU := gt_2 _ (List.mem_of_getElem? (i := 17) rfl) rfl
theorem q2_18 : Cond.instanceMethod (⟨"java/lang/Throwable", "<init>", "(Ljava/lang/String;)V"⟩ : MethodName) ∈ gU := gt_2 _ (List.mem_of_getElem? (i := 18) rfl) rfl
theorem q2_19 : Cond.code (⟨"java/lang/Throwable", "<init>", "(Ljava/lang/String;)V"⟩ : MethodName) prog_19_method_2_code 2 none ∈ gU := gt_2 _ (List.mem_of_getElem? (i := 19) rfl) rfl
theorem q2_21 : Cond.fieldLink "java/lang/Throwable" 31 "java/lang/Throwable" "detailMessage" "Ljava/lang/String;" ∈ gU := gt_2 _ (List.mem_of_getElem? (i := 21) rfl) rfl
theorem q2_22 : Cond.fieldLink "java/lang/Throwable" 7 "java/lang/Throwable" "cause" "Ljava/lang/Throwable;" ∈ gU := gt_2 _ (List.mem_of_getElem? (i := 22) rfl) rfl
theorem q2_23 : Cond.fieldLink "java/lang/Throwable" 17 "java/lang/Throwable" "stackTrace" "[Ljava/lang/StackTraceElement;" ∈ gU := gt_2 _ (List.mem_of_getElem? (i := 23) rfl) rfl
theorem q2_24 : Cond.fieldLink "java/lang/Throwable" 24 "java/lang/Throwable" "suppressedExceptions" "Ljava/util/List;" ∈ gU := gt_2 _ (List.mem_of_getElem? (i := 24) rfl) rfl
theorem q2_29 : Cond.lays "java/lang/IllegalStateException" "java/lang/Throwable" "depth" "I" ∈ gU := gt_2 _ (List.mem_of_getElem? (i := 29) rfl) rfl
theorem q2_33 : Cond.arrayClass .byte ∈ gU := gt_2 _ (List.mem_of_getElem? (i := 33) rfl) rfl
theorem q2_34 : Cond.methodLink RX6 218 yX3_restoreSaved ∈ gU := gt_2 _ (List.mem_of_getElem? (i := 34) rfl) rfl
theorem q2_35 : Cond.instanceMethod yX3_restoreSaved ∈ gU := gt_2 _ (List.mem_of_getElem? (i := 35) rfl) rfl
theorem q2_36 : Cond.selects RX3 yX3_restoreSaved yX3_restoreSaved ∈ gU := gt_2 _ (List.mem_of_getElem? (i := 36) rfl) rfl
theorem q2_37 : Cond.code yX3_restoreSaved cX3_restoreSaved 2 none ∈ gU := gt_2 _ (List.mem_of_getElem? (i := 37) rfl) rfl
theorem q2_38 : Cond.methodLink RX3 32 yX0_copyFrom ∈ gU := gt_2 _ (List.mem_of_getElem? (i := 38) rfl) rfl
theorem q2_39 : Cond.instanceMethod yX0_copyFrom ∈ gU := gt_2 _ (List.mem_of_getElem? (i := 39) rfl) rfl
theorem q2_40 : Cond.selects RX0 yX0_copyFrom yX0_copyFrom ∈ gU := gt_2 _ (List.mem_of_getElem? (i := 40) rfl) rfl
theorem q2_41 : Cond.code yX0_copyFrom cX0_copyFrom 2 none ∈ gU := gt_2 _ (List.mem_of_getElem? (i := 41) rfl) rfl
theorem q2_42 : Cond.methodLink RX0 64 yX0_copyRow ∈ gU := gt_2 _ (List.mem_of_getElem? (i := 42) rfl) rfl
theorem q2_43 : Cond.static yX0_copyRow ∈ gU := gt_2 _ (List.mem_of_getElem? (i := 43) rfl) rfl
theorem q2_44 : Cond.code yX0_copyRow cX0_copyRow 2 none ∈ gU := gt_2 _ (List.mem_of_getElem? (i := 44) rfl) rfl
theorem q2_45 : Cond.methodLink RX0 68 yJ9_min_7cf53 ∈ gU := gt_2 _ (List.mem_of_getElem? (i := 45) rfl) rfl
theorem q2_46 : Cond.static yJ9_min_7cf53 ∈ gU := gt_2 _ (List.mem_of_getElem? (i := 46) rfl) rfl
theorem q2_47 : Cond.code yJ9_min_7cf53 cJ9_min_7cf53 2 (some .int) ∈ gU := gt_2 _ (List.mem_of_getElem? (i := 47) rfl) rfl
theorem q2_48 : Cond.methodLink RX0 74 (⟨"java/lang/System", "arraycopy", "(Ljava/lang/Object;ILjava/lang/Object;II)V"⟩ : MethodName) ∈ gU := gt_2 _ (List.mem_of_getElem? (i := 48) rfl) rfl
theorem q2_49 : Cond.static (⟨"java/lang/System", "arraycopy", "(Ljava/lang/Object;ILjava/lang/Object;II)V"⟩ : MethodName) ∈ gU := gt_2 _ (List.mem_of_getElem? (i := 49) rfl) rfl
theorem q2_50 : Cond.native (⟨"java/lang/System", "arraycopy", "(Ljava/lang/Object;ILjava/lang/Object;II)V"⟩ : MethodName) ∈ gU := gt_2 _ (List.mem_of_getElem? (i := 50) rfl) rfl
theorem q2_51 : Cond.methodLink RL 169 yX6_savedStates ∈ gU := gt_2 _ (List.mem_of_getElem? (i := 51) rfl) rfl
theorem q2_52 : Cond.instanceMethod yX6_savedStates ∈ gU := gt_2 _ (List.mem_of_getElem? (i := 52) rfl) rfl
theorem q2_53 : Cond.selects RX6 yX6_savedStates yX6_savedStates ∈ gU := gt_2 _ (List.mem_of_getElem? (i := 53) rfl) rfl
theorem q2_54 : Cond.code yX6_savedStates cX6_savedStates 1 (some .int) ∈ gU := gt_2 _ (List.mem_of_getElem? (i := 54) rfl) rfl
theorem q2_55 : Cond.methodLink RL 12 yX6_tickets ∈ gU := gt_2 _ (List.mem_of_getElem? (i := 55) rfl) rfl
theorem q2_56 : Cond.instanceMethod yX6_tickets ∈ gU := gt_2 _ (List.mem_of_getElem? (i := 56) rfl) rfl
theorem q2_57 : Cond.selects RX6 yX6_tickets yX6_tickets ∈ gU := gt_2 _ (List.mem_of_getElem? (i := 57) rfl) rfl
theorem q2_58 : Cond.code yX6_tickets cX6_tickets 1 (some .int) ∈ gU := gt_2 _ (List.mem_of_getElem? (i := 58) rfl) rfl
theorem q2_59 : Cond.methodLink RL 65 yX6_capacityOf ∈ gU := gt_2 _ (List.mem_of_getElem? (i := 59) rfl) rfl
theorem q2_60 : Cond.instanceMethod yX6_capacityOf ∈ gU := gt_2 _ (List.mem_of_getElem? (i := 60) rfl) rfl
theorem q2_61 : Cond.selects RX6 yX6_capacityOf yX6_capacityOf ∈ gU := gt_2 _ (List.mem_of_getElem? (i := 61) rfl) rfl
theorem q2_62 : Cond.code yX6_capacityOf cX6_capacityOf 2 (some .int) ∈ gU := gt_2 _ (List.mem_of_getElem? (i := 62) rfl) rfl
theorem q2_63 : Cond.methodLink RX6 92 yX6_isOwner ∈ gU := gt_2 _ (List.mem_of_getElem? (i := 63) rfl) rfl
theorem q2_64 : Cond.static yX6_isOwner ∈ gU := gt_2 _ (List.mem_of_getElem? (i := 64) rfl) rfl
theorem q2_65 : Cond.code yX6_isOwner cX6_isOwner 1 (some .boolean) ∈ gU := gt_2 _ (List.mem_of_getElem? (i := 65) rfl) rfl
theorem q2_66 : Cond.methodLink RX6 40 yX6_within ∈ gU := gt_2 _ (List.mem_of_getElem? (i := 66) rfl) rfl
theorem q2_67 : Cond.static yX6_within ∈ gU := gt_2 _ (List.mem_of_getElem? (i := 67) rfl) rfl
theorem q2_68 : Cond.code yX6_within cX6_within 3 (some .boolean) ∈ gU := gt_2 _ (List.mem_of_getElem? (i := 68) rfl) rfl
theorem q2_69 : Cond.methodLink RX6 67 yX6_requireIndex ∈ gU := gt_2 _ (List.mem_of_getElem? (i := 69) rfl) rfl
theorem q2_70 : Cond.static yX6_requireIndex ∈ gU := gt_2 _ (List.mem_of_getElem? (i := 70) rfl) rfl
theorem q2_71 : Cond.code yX6_requireIndex cX6_requireIndex 1 none ∈ gU := gt_2 _ (List.mem_of_getElem? (i := 71) rfl) rfl
theorem q2_72 : Cond.classLink RX6 374 "java/lang/IndexOutOfBoundsException" ∈ gU := gt_2 _ (List.mem_of_getElem? (i := 72) rfl) rfl
theorem q2_73 : Cond.instantiable "java/lang/IndexOutOfBoundsException" 6 ∈ gU := gt_2 _ (List.mem_of_getElem? (i := 73) rfl) rfl
theorem q2_75 : Cond.selects "java/lang/IndexOutOfBoundsException" (⟨"java/lang/Throwable", "fillInStackTrace", "(I)Ljava/lang/Throwable;"⟩ : MethodName) (⟨"java/lang/Throwable", "fillInStackTrace", "(I)Ljava/lang/Throwable;"⟩ : MethodName) ∈ gU := gt_2 _ (List.mem_of_getElem? (i := 75) rfl) rfl
theorem q2_76 : Cond.lays "java/lang/IndexOutOfBoundsException" "java/lang/Throwable" "cause" "Ljava/lang/Throwable;" ∈ gU := gt_2 _ (List.mem_of_getElem? (i := 76) rfl) rfl
theorem q2_77 : Cond.lays "java/lang/IndexOutOfBoundsException" "java/lang/Throwable" "stackTrace" "[Ljava/lang/StackTraceElement;" ∈ gU := gt_2 _ (List.mem_of_getElem? (i := 77) rfl) rfl
theorem q2_78 : Cond.lays "java/lang/IndexOutOfBoundsException" "java/lang/Throwable" "suppressedExceptions" "Ljava/util/List;" ∈ gU := gt_2 _ (List.mem_of_getElem? (i := 78) rfl) rfl
theorem q2_79 : Cond.lays "java/lang/IndexOutOfBoundsException" "java/lang/Throwable" "detailMessage" "Ljava/lang/String;" ∈ gU := gt_2 _ (List.mem_of_getElem? (i := 79) rfl) rfl
theorem q2_80 : Cond.lays "java/lang/IndexOutOfBoundsException" "java/lang/Throwable" "backtrace" "Ljava/lang/Object;" ∈ gU := gt_2 _ (List.mem_of_getElem? (i := 80) rfl) rfl
theorem q2_82 : Cond.methodLink RX6 378 (⟨"java/lang/IndexOutOfBoundsException", "<init>", "(Ljava/lang/String;)V"⟩ : MethodName) ∈ gU := gt_2 _ (List.mem_of_getElem? (i := 82) rfl) rfl
theorem q2_83 : Cond.instanceMethod (⟨"java/lang/IndexOutOfBoundsException", "<init>", "(Ljava/lang/String;)V"⟩ : MethodName) ∈ gU := gt_2 _ (List.mem_of_getElem? (i := 83) rfl) rfl
theorem q2_84 : Cond.code (⟨"java/lang/IndexOutOfBoundsException", "<init>", "(Ljava/lang/String;)V"⟩ : MethodName) prog_13_method_2_code 2 none ∈ gU := gt_2 _ (List.mem_of_getElem? (i := 84) rfl) rfl
theorem q2_85 : Cond.methodLink "java/lang/IndexOutOfBoundsException" 7 (⟨"java/lang/RuntimeException", "<init>", "(Ljava/lang/String;)V"⟩ : MethodName) ∈ gU := gt_2 _ (List.mem_of_getElem? (i := 85) rfl) rfl
theorem q2_86 : Cond.lays "java/lang/IndexOutOfBoundsException" "java/lang/Throwable" "depth" "I" ∈ gU := gt_2 _ (List.mem_of_getElem? (i := 86) rfl) rfl
theorem q2_88 : Cond.methodLink RL 71 yX6_dateOf ∈ gU := gt_2 _ (List.mem_of_getElem? (i := 88) rfl) rfl
theorem q2_89 : Cond.instanceMethod yX6_dateOf ∈ gU := gt_2 _ (List.mem_of_getElem? (i := 89) rfl) rfl
theorem q2_90 : Cond.selects RX6 yX6_dateOf yX6_dateOf ∈ gU := gt_2 _ (List.mem_of_getElem? (i := 90) rfl) rfl
theorem q2_91 : Cond.code yX6_dateOf cX6_dateOf 2 (some .int) ∈ gU := gt_2 _ (List.mem_of_getElem? (i := 91) rfl) rfl
theorem q2_92 : Cond.methodLink RX6 118 yX6_isMilestone ∈ gU := gt_2 _ (List.mem_of_getElem? (i := 92) rfl) rfl
theorem q2_93 : Cond.static yX6_isMilestone ∈ gU := gt_2 _ (List.mem_of_getElem? (i := 93) rfl) rfl
theorem q2_94 : Cond.code yX6_isMilestone cX6_isMilestone 1 (some .boolean) ∈ gU := gt_2 _ (List.mem_of_getElem? (i := 94) rfl) rfl
theorem q2_95 : Cond.methodLink RL 150 yX6_hundredthsDone ∈ gU := gt_2 _ (List.mem_of_getElem? (i := 95) rfl) rfl
theorem q2_96 : Cond.instanceMethod yX6_hundredthsDone ∈ gU := gt_2 _ (List.mem_of_getElem? (i := 96) rfl) rfl
theorem q2_97 : Cond.selects RX6 yX6_hundredthsDone yX6_hundredthsDone ∈ gU := gt_2 _ (List.mem_of_getElem? (i := 97) rfl) rfl
theorem q2_98 : Cond.code yX6_hundredthsDone cX6_hundredthsDone 2 (some .int) ∈ gU := gt_2 _ (List.mem_of_getElem? (i := 98) rfl) rfl
theorem q2_99 : Cond.methodLink RX6 287 yX5_hundredthsFor ∈ gU := gt_2 _ (List.mem_of_getElem? (i := 99) rfl) rfl
theorem q2_100 : Cond.static yX5_hundredthsFor ∈ gU := gt_2 _ (List.mem_of_getElem? (i := 100) rfl) rfl
theorem q2_101 : Cond.code yX5_hundredthsFor cX5_hundredthsFor 4 (some .int) ∈ gU := gt_2 _ (List.mem_of_getElem? (i := 101) rfl) rfl
theorem q2_102 : Cond.methodLink RX5 46 yX5_doneFor ∈ gU := gt_2 _ (List.mem_of_getElem? (i := 102) rfl) rfl
theorem q2_103 : Cond.static yX5_doneFor ∈ gU := gt_2 _ (List.mem_of_getElem? (i := 103) rfl) rfl
theorem q2_104 : Cond.code yX5_doneFor cX5_doneFor 2 (some .int) ∈ gU := gt_2 _ (List.mem_of_getElem? (i := 104) rfl) rfl
theorem q2_105 : Cond.methodLink RX5 43 yX0_plannedFor ∈ gU := gt_2 _ (List.mem_of_getElem? (i := 105) rfl) rfl
theorem q2_106 : Cond.instanceMethod yX0_plannedFor ∈ gU := gt_2 _ (List.mem_of_getElem? (i := 106) rfl) rfl
theorem q2_107 : Cond.selects RX0 yX0_plannedFor yX0_plannedFor ∈ gU := gt_2 _ (List.mem_of_getElem? (i := 107) rfl) rfl
theorem q2_108 : Cond.code yX0_plannedFor cX0_plannedFor 2 (some .int) ∈ gU := gt_2 _ (List.mem_of_getElem? (i := 108) rfl) rfl
theorem q2_109 : Cond.methodLink RX0 84 yX0_setWhere ∈ gU := gt_2 _ (List.mem_of_getElem? (i := 109) rfl) rfl
theorem q2_111 : Cond.instanceMethod yX0_setWhere ∈ gU := gt_2 _ (List.mem_of_getElem? (i := 111) rfl) rfl
theorem q2_112 : Cond.code yX0_setWhere cX0_setWhere 5 (some .int) ∈ gU := gt_2 _ (List.mem_of_getElem? (i := 112) rfl) rfl
theorem q2_114 : Cond.static yX6_setOf ∈ gU := gt_2 _ (List.mem_of_getElem? (i := 114) rfl) rfl
theorem q2_115 : Cond.code yX6_setOf cX6_setOf 1 (some .int) ∈ gU := gt_2 _ (List.mem_of_getElem? (i := 115) rfl) rfl
theorem q2_116 : Cond.methodLink RX5 22 yX0_inState ∈ gU := gt_2 _ (List.mem_of_getElem? (i := 116) rfl) rfl
theorem q2_117 : Cond.instanceMethod yX0_inState ∈ gU := gt_2 _ (List.mem_of_getElem? (i := 117) rfl) rfl
theorem q2_118 : Cond.selects RX0 yX0_inState yX0_inState ∈ gU := gt_2 _ (List.mem_of_getElem? (i := 118) rfl) rfl
theorem q2_119 : Cond.code yX0_inState cX0_inState 2 (some .int) ∈ gU := gt_2 _ (List.mem_of_getElem? (i := 119) rfl) rfl
theorem q2_120 : Cond.methodLink RX5 19 yX0_pointsOfSet ∈ gU := gt_2 _ (List.mem_of_getElem? (i := 120) rfl) rfl
theorem q2_121 : Cond.instanceMethod yX0_pointsOfSet ∈ gU := gt_2 _ (List.mem_of_getElem? (i := 121) rfl) rfl
theorem q2_122 : Cond.selects RX0 yX0_pointsOfSet yX0_pointsOfSet ∈ gU := gt_2 _ (List.mem_of_getElem? (i := 122) rfl) rfl
theorem q2_123 : Cond.code yX0_pointsOfSet cX0_pointsOfSet 4 (some .int) ∈ gU := gt_2 _ (List.mem_of_getElem? (i := 123) rfl) rfl
theorem q2_125 : Cond.static yX6_isIn ∈ gU := gt_2 _ (List.mem_of_getElem? (i := 125) rfl) rfl
theorem q2_126 : Cond.code yX6_isIn cX6_isIn 2 (some .boolean) ∈ gU := gt_2 _ (List.mem_of_getElem? (i := 126) rfl) rfl
theorem q2_127 : Cond.methodLink RX5 49 yX5_leftFor ∈ gU := gt_2 _ (List.mem_of_getElem? (i := 127) rfl) rfl
theorem q2_128 : Cond.static yX5_leftFor ∈ gU := gt_2 _ (List.mem_of_getElem? (i := 128) rfl) rfl
theorem q2_129 : Cond.code yX5_leftFor cX5_leftFor 2 (some .int) ∈ gU := gt_2 _ (List.mem_of_getElem? (i := 129) rfl) rfl
theorem q2_130 : Cond.methodLink RX5 15 yX0_unfinishedSet ∈ gU := gt_2 _ (List.mem_of_getElem? (i := 130) rfl) rfl
theorem q2_131 : Cond.instanceMethod yX0_unfinishedSet ∈ gU := gt_2 _ (List.mem_of_getElem? (i := 131) rfl) rfl
theorem q2_132 : Cond.selects RX0 yX0_unfinishedSet yX0_unfinishedSet ∈ gU := gt_2 _ (List.mem_of_getElem? (i := 132) rfl) rfl
theorem q2_133 : Cond.code yX0_unfinishedSet cX0_unfinishedSet 3 (some .int) ∈ gU := gt_2 _ (List.mem_of_getElem? (i := 133) rfl) rfl
theorem q2_134 : Cond.methodLink RX0 88 yX0_isUnfinished ∈ gU := gt_2 _ (List.mem_of_getElem? (i := 134) rfl) rfl
theorem q2_135 : Cond.instanceMethod yX0_isUnfinished ∈ gU := gt_2 _ (List.mem_of_getElem? (i := 135) rfl) rfl
theorem q2_136 : Cond.selects RX0 yX0_isUnfinished yX0_isUnfinished ∈ gU := gt_2 _ (List.mem_of_getElem? (i := 136) rfl) rfl
theorem q2_137 : Cond.code yX0_isUnfinished cX0_isUnfinished 2 (some .boolean) ∈ gU := gt_2 _ (List.mem_of_getElem? (i := 137) rfl) rfl
theorem q2_138 : Cond.methodLink RL 18 yX6_day ∈ gU := gt_2 _ (List.mem_of_getElem? (i := 138) rfl) rfl
theorem q2_139 : Cond.instanceMethod yX6_day ∈ gU := gt_2 _ (List.mem_of_getElem? (i := 139) rfl) rfl
theorem q2_140 : Cond.selects RX6 yX6_day yX6_day ∈ gU := gt_2 _ (List.mem_of_getElem? (i := 140) rfl) rfl
theorem q2_141 : Cond.code yX6_day cX6_day 1 (some .int) ∈ gU := gt_2 _ (List.mem_of_getElem? (i := 141) rfl) rfl
theorem q2_142 : Cond.methodLink RL 172 yX6_meanDays ∈ gU := gt_2 _ (List.mem_of_getElem? (i := 142) rfl) rfl
theorem q2_143 : Cond.instanceMethod yX6_meanDays ∈ gU := gt_2 _ (List.mem_of_getElem? (i := 143) rfl) rfl
theorem q2_144 : Cond.selects RX6 yX6_meanDays yX6_meanDays ∈ gU := gt_2 _ (List.mem_of_getElem? (i := 144) rfl) rfl
theorem q2_145 : Cond.code yX6_meanDays cX6_meanDays 1 (some .double) ∈ gU := gt_2 _ (List.mem_of_getElem? (i := 145) rfl) rfl
theorem q2_146 : Cond.methodLink RX6 328 yX5_meanProgress ∈ gU := gt_2 _ (List.mem_of_getElem? (i := 146) rfl) rfl
theorem q2_147 : Cond.static yX5_meanProgress ∈ gU := gt_2 _ (List.mem_of_getElem? (i := 147) rfl) rfl
theorem q2_148 : Cond.code yX5_meanProgress cX5_meanProgress 4 (some .double) ∈ gU := gt_2 _ (List.mem_of_getElem? (i := 148) rfl) rfl
theorem q2_149 : Cond.methodLink RL 176 yL_cell ∈ gU := gt_2 _ (List.mem_of_getElem? (i := 149) rfl) rfl
theorem q2_150 : Cond.static yL_cell ∈ gU := gt_2 _ (List.mem_of_getElem? (i := 150) rfl) rfl
theorem q2_151 : Cond.code yL_cell cL_cell 2 (some .int) ∈ gU := gt_2 _ (List.mem_of_getElem? (i := 151) rfl) rfl
theorem q2_152 : Cond.methodLink RL 180 yL_told ∈ gU := gt_2 _ (List.mem_of_getElem? (i := 152) rfl) rfl
theorem q2_153 : Cond.static yL_told ∈ gU := gt_2 _ (List.mem_of_getElem? (i := 153) rfl) rfl
theorem q2_154 : Cond.code yL_told cL_told 4 (some .long) ∈ gU := gt_2 _ (List.mem_of_getElem? (i := 154) rfl) rfl
theorem q2_155 : Cond.constantLong RL 8 3 ∈ gU := gt_2 _ (List.mem_of_getElem? (i := 155) rfl) rfl
theorem q2_156 : Cond.constantLong RL 10 31 ∈ gU := gt_2 _ (List.mem_of_getElem? (i := 156) rfl) rfl
theorem q2_157 : Cond.methodLink RL 21 yX6_closings ∈ gU := gt_2 _ (List.mem_of_getElem? (i := 157) rfl) rfl
theorem q2_158 : Cond.instanceMethod yX6_closings ∈ gU := gt_2 _ (List.mem_of_getElem? (i := 158) rfl) rfl
theorem q2_159 : Cond.selects RX6 yX6_closings yX6_closings ∈ gU := gt_2 _ (List.mem_of_getElem? (i := 159) rfl) rfl
theorem q2_160 : Cond.code yX6_closings cX6_closings 1 (some .int) ∈ gU := gt_2 _ (List.mem_of_getElem? (i := 160) rfl) rfl
theorem q2_161 : Cond.methodLink RL 24 yX6_reopenings ∈ gU := gt_2 _ (List.mem_of_getElem? (i := 161) rfl) rfl
theorem q2_162 : Cond.instanceMethod yX6_reopenings ∈ gU := gt_2 _ (List.mem_of_getElem? (i := 162) rfl) rfl
theorem q2_163 : Cond.selects RX6 yX6_reopenings yX6_reopenings ∈ gU := gt_2 _ (List.mem_of_getElem? (i := 163) rfl) rfl
theorem q2_164 : Cond.code yX6_reopenings cX6_reopenings 1 (some .int) ∈ gU := gt_2 _ (List.mem_of_getElem? (i := 164) rfl) rfl
theorem q2_165 : Cond.methodLink RL 27 yX6_criticalByOrder ∈ gU := gt_2 _ (List.mem_of_getElem? (i := 165) rfl) rfl
theorem q2_166 : Cond.instanceMethod yX6_criticalByOrder ∈ gU := gt_2 _ (List.mem_of_getElem? (i := 166) rfl) rfl
theorem q2_167 : Cond.selects RX6 yX6_criticalByOrder yX6_criticalByOrder ∈ gU := gt_2 _ (List.mem_of_getElem? (i := 167) rfl) rfl
theorem q2_168 : Cond.code yX6_criticalByOrder cX6_criticalByOrder 1 (some .int) ∈ gU := gt_2 _ (List.mem_of_getElem? (i := 168) rfl) rfl
theorem q2_169 : Cond.methodLink RX6 263 yX1_mostPointsByOrder ∈ gU := gt_2 _ (List.mem_of_getElem? (i := 169) rfl) rfl
theorem q2_170 : Cond.instanceMethod yX1_mostPointsByOrder ∈ gU := gt_2 _ (List.mem_of_getElem? (i := 170) rfl) rfl
theorem q2_171 : Cond.selects RX1 yX1_mostPointsByOrder yX1_mostPointsByOrder ∈ gU := gt_2 _ (List.mem_of_getElem? (i := 171) rfl) rfl
theorem q2_172 : Cond.code yX1_mostPointsByOrder cX1_mostPointsByOrder 6 (some .int) ∈ gU := gt_2 _ (List.mem_of_getElem? (i := 172) rfl) rfl
theorem q2_173 : Cond.methodLink RX1 73 yX1_placeable ∈ gU := gt_2 _ (List.mem_of_getElem? (i := 173) rfl) rfl
theorem q2_174 : Cond.static yX1_placeable ∈ gU := gt_2 _ (List.mem_of_getElem? (i := 174) rfl) rfl
theorem q2_175 : Cond.code yX1_placeable cX1_placeable 3 (some .int) ∈ gU := gt_2 _ (List.mem_of_getElem? (i := 175) rfl) rfl
theorem q2_177 : Cond.methodLink RX1 69 yX1_countedPoints ∈ gU := gt_2 _ (List.mem_of_getElem? (i := 177) rfl) rfl
theorem q2_178 : Cond.static yX1_countedPoints ∈ gU := gt_2 _ (List.mem_of_getElem? (i := 178) rfl) rfl
theorem q2_179 : Cond.code yX1_countedPoints cX1_countedPoints 2 (some .int) ∈ gU := gt_2 _ (List.mem_of_getElem? (i := 179) rfl) rfl
theorem q2_180 : Cond.methodLink RX1 49 yX0_isUnfinished ∈ gU := gt_2 _ (List.mem_of_getElem? (i := 180) rfl) rfl
theorem q2_181 : Cond.methodLink RX1 76 yX1_bestNeeded ∈ gU := gt_2 _ (List.mem_of_getElem? (i := 181) rfl) rfl
theorem q2_183 : Cond.instanceMethod yX1_bestNeeded ∈ gU := gt_2 _ (List.mem_of_getElem? (i := 183) rfl) rfl
theorem q2_184 : Cond.code yX1_bestNeeded cX1_bestNeeded 5 (some .int) ∈ gU := gt_2 _ (List.mem_of_getElem? (i := 184) rfl) rfl
theorem q2_185 : Cond.methodLink RX1 66 yX0_needsDirectly ∈ gU := gt_2 _ (List.mem_of_getElem? (i := 185) rfl) rfl
theorem q2_186 : Cond.instanceMethod yX0_needsDirectly ∈ gU := gt_2 _ (List.mem_of_getElem? (i := 186) rfl) rfl
theorem q2_187 : Cond.selects RX0 yX0_needsDirectly yX0_needsDirectly ∈ gU := gt_2 _ (List.mem_of_getElem? (i := 187) rfl) rfl
theorem q2_188 : Cond.code yX0_needsDirectly cX0_needsDirectly 3 (some .boolean) ∈ gU := gt_2 _ (List.mem_of_getElem? (i := 188) rfl) rfl
theorem q2_189 : Cond.methodLink RX1 60 yJ9_max_7cf53 ∈ gU := gt_2 _ (List.mem_of_getElem? (i := 189) rfl) rfl
theorem q2_190 : Cond.static yJ9_max_7cf53 ∈ gU := gt_2 _ (List.mem_of_getElem? (i := 190) rfl) rfl
theorem q2_191 : Cond.code yJ9_max_7cf53 cJ9_max_7cf53 2 (some .int) ∈ gU := gt_2 _ (List.mem_of_getElem? (i := 191) rfl) rfl
theorem q2_193 : Cond.methodLink RL 30 yX6_stateOf ∈ gU := gt_2 _ (List.mem_of_getElem? (i := 193) rfl) rfl
theorem q2_194 : Cond.instanceMethod yX6_stateOf ∈ gU := gt_2 _ (List.mem_of_getElem? (i := 194) rfl) rfl
theorem q2_195 : Cond.selects RX6 yX6_stateOf yX6_stateOf ∈ gU := gt_2 _ (List.mem_of_getElem? (i := 195) rfl) rfl
theorem q2_196 : Cond.code yX6_stateOf cX6_stateOf 2 (some .int) ∈ gU := gt_2 _ (List.mem_of_getElem? (i := 196) rfl) rfl
theorem q2_197 : Cond.methodLink RX6 63 yX0_hasTicket ∈ gU := gt_2 _ (List.mem_of_getElem? (i := 197) rfl) rfl
theorem q2_198 : Cond.instanceMethod yX0_hasTicket ∈ gU := gt_2 _ (List.mem_of_getElem? (i := 198) rfl) rfl
theorem q2_199 : Cond.selects RX0 yX0_hasTicket yX0_hasTicket ∈ gU := gt_2 _ (List.mem_of_getElem? (i := 199) rfl) rfl
theorem q2_200 : Cond.code yX0_hasTicket cX0_hasTicket 2 (some .boolean) ∈ gU := gt_2 _ (List.mem_of_getElem? (i := 200) rfl) rfl
theorem q2_201 : Cond.methodLink RL 34 yX6_pointsOf ∈ gU := gt_2 _ (List.mem_of_getElem? (i := 201) rfl) rfl
theorem q2_202 : Cond.instanceMethod yX6_pointsOf ∈ gU := gt_2 _ (List.mem_of_getElem? (i := 202) rfl) rfl
theorem q2_203 : Cond.selects RX6 yX6_pointsOf yX6_pointsOf ∈ gU := gt_2 _ (List.mem_of_getElem? (i := 203) rfl) rfl
theorem q2_204 : Cond.code yX6_pointsOf cX6_pointsOf 2 (some .int) ∈ gU := gt_2 _ (List.mem_of_getElem? (i := 204) rfl) rfl
theorem q2_205 : Cond.methodLink RL 37 yX6_priorityOf ∈ gU := gt_2 _ (List.mem_of_getElem? (i := 205) rfl) rfl
theorem q2_206 : Cond.instanceMethod yX6_priorityOf ∈ gU := gt_2 _ (List.mem_of_getElem? (i := 206) rfl) rfl
theorem q2_207 : Cond.selects RX6 yX6_priorityOf yX6_priorityOf ∈ gU := gt_2 _ (List.mem_of_getElem? (i := 207) rfl) rfl
theorem q2_208 : Cond.code yX6_priorityOf cX6_priorityOf 2 (some .int) ∈ gU := gt_2 _ (List.mem_of_getElem? (i := 208) rfl) rfl
theorem q2_209 : Cond.methodLink RL 40 yX6_hasOwner ∈ gU := gt_2 _ (List.mem_of_getElem? (i := 209) rfl) rfl
theorem q2_210 : Cond.instanceMethod yX6_hasOwner ∈ gU := gt_2 _ (List.mem_of_getElem? (i := 210) rfl) rfl
theorem q2_211 : Cond.selects RX6 yX6_hasOwner yX6_hasOwner ∈ gU := gt_2 _ (List.mem_of_getElem? (i := 211) rfl) rfl
theorem q2_212 : Cond.code yX6_hasOwner cX6_hasOwner 2 (some .boolean) ∈ gU := gt_2 _ (List.mem_of_getElem? (i := 212) rfl) rfl
theorem q2_213 : Cond.methodLink RL 44 yX6_ownerOf ∈ gU := gt_2 _ (List.mem_of_getElem? (i := 213) rfl) rfl
theorem q2_214 : Cond.instanceMethod yX6_ownerOf ∈ gU := gt_2 _ (List.mem_of_getElem? (i := 214) rfl) rfl
theorem q2_215 : Cond.selects RX6 yX6_ownerOf yX6_ownerOf ∈ gU := gt_2 _ (List.mem_of_getElem? (i := 215) rfl) rfl
theorem q2_216 : Cond.code yX6_ownerOf cX6_ownerOf 2 (some .int) ∈ gU := gt_2 _ (List.mem_of_getElem? (i := 216) rfl) rfl
theorem q2_217 : Cond.methodLink RL 47 yX6_isPlanned ∈ gU := gt_2 _ (List.mem_of_getElem? (i := 217) rfl) rfl
theorem q2_218 : Cond.instanceMethod yX6_isPlanned ∈ gU := gt_2 _ (List.mem_of_getElem? (i := 218) rfl) rfl
theorem q2_219 : Cond.selects RX6 yX6_isPlanned yX6_isPlanned ∈ gU := gt_2 _ (List.mem_of_getElem? (i := 219) rfl) rfl
theorem q2_220 : Cond.code yX6_isPlanned cX6_isPlanned 2 (some .boolean) ∈ gU := gt_2 _ (List.mem_of_getElem? (i := 220) rfl) rfl
theorem q2_221 : Cond.methodLink RL 50 yX6_milestoneOf ∈ gU := gt_2 _ (List.mem_of_getElem? (i := 221) rfl) rfl
theorem q2_222 : Cond.instanceMethod yX6_milestoneOf ∈ gU := gt_2 _ (List.mem_of_getElem? (i := 222) rfl) rfl
theorem q2_223 : Cond.selects RX6 yX6_milestoneOf yX6_milestoneOf ∈ gU := gt_2 _ (List.mem_of_getElem? (i := 223) rfl) rfl
theorem q2_224 : Cond.code yX6_milestoneOf cX6_milestoneOf 2 (some .int) ∈ gU := gt_2 _ (List.mem_of_getElem? (i := 224) rfl) rfl
theorem q2_225 : Cond.methodLink RL 53 yX6_daysInProgress ∈ gU := gt_2 _ (List.mem_of_getElem? (i := 225) rfl) rfl
theorem q2_226 : Cond.instanceMethod yX6_daysInProgress ∈ gU := gt_2 _ (List.mem_of_getElem? (i := 226) rfl) rfl
theorem q2_227 : Cond.selects RX6 yX6_daysInProgress yX6_daysInProgress ∈ gU := gt_2 _ (List.mem_of_getElem? (i := 227) rfl) rfl
theorem q2_228 : Cond.code yX6_daysInProgress cX6_daysInProgress 2 (some .int) ∈ gU := gt_2 _ (List.mem_of_getElem? (i := 228) rfl) rfl
theorem q2_229 : Cond.methodLink RL 56 yX6_timesSentBack ∈ gU := gt_2 _ (List.mem_of_getElem? (i := 229) rfl) rfl
theorem q2_230 : Cond.instanceMethod yX6_timesSentBack ∈ gU := gt_2 _ (List.mem_of_getElem? (i := 230) rfl) rfl
theorem q2_231 : Cond.selects RX6 yX6_timesSentBack yX6_timesSentBack ∈ gU := gt_2 _ (List.mem_of_getElem? (i := 231) rfl) rfl
theorem q2_232 : Cond.code yX6_timesSentBack cX6_timesSentBack 2 (some .int) ∈ gU := gt_2 _ (List.mem_of_getElem? (i := 232) rfl) rfl
theorem q2_233 : Cond.methodLink RL 59 yX6_needsOf ∈ gU := gt_2 _ (List.mem_of_getElem? (i := 233) rfl) rfl
theorem q2_234 : Cond.instanceMethod yX6_needsOf ∈ gU := gt_2 _ (List.mem_of_getElem? (i := 234) rfl) rfl
theorem q2_235 : Cond.selects RX6 yX6_needsOf yX6_needsOf ∈ gU := gt_2 _ (List.mem_of_getElem? (i := 235) rfl) rfl
theorem q2_236 : Cond.code yX6_needsOf cX6_needsOf 2 (some .int) ∈ gU := gt_2 _ (List.mem_of_getElem? (i := 236) rfl) rfl
theorem q2_237 : Cond.methodLink RX6 162 yJ6_bitCount_0f7a4 ∈ gU := gt_2 _ (List.mem_of_getElem? (i := 237) rfl) rfl
theorem q2_238 : Cond.static yJ6_bitCount_0f7a4 ∈ gU := gt_2 _ (List.mem_of_getElem? (i := 238) rfl) rfl
theorem q2_239 : Cond.code yJ6_bitCount_0f7a4 cJ6_bitCount_0f7a4 1 (some .int) ∈ gU := gt_2 _ (List.mem_of_getElem? (i := 239) rfl) rfl
theorem q3_0 : Cond.constant RJ6 265 1431655765 ∈ gU := gt_3 _ (List.mem_of_getElem? (i := 0) rfl) rfl
theorem q3_1 : Cond.constant RJ6 266 858993459 ∈ gU := gt_3 _ (List.mem_of_getElem? (i := 1) rfl) rfl
theorem q3_2 : Cond.constant RJ6 267 252645135 ∈ gU := gt_3 _ (List.mem_of_getElem? (i := 2) rfl) rfl
theorem q3_3 : Cond.methodLink RL 62 yX6_chainOf ∈ gU := gt_3 _ (List.mem_of_getElem? (i := 3) rfl) rfl
theorem q3_4 : Cond.instanceMethod yX6_chainOf ∈ gU := gt_3 _ (List.mem_of_getElem? (i := 4) rfl) rfl
theorem q3_5 : Cond.selects RX6 yX6_chainOf yX6_chainOf ∈ gU := gt_3 _ (List.mem_of_getElem? (i := 5) rfl) rfl
theorem q3_6 : Cond.code yX6_chainOf cX6_chainOf 2 (some .int) ∈ gU := gt_3 _ (List.mem_of_getElem? (i := 6) rfl) rfl
theorem q3_7 : Cond.methodLink RX6 257 yX1_longestFrom ∈ gU := gt_3 _ (List.mem_of_getElem? (i := 7) rfl) rfl
theorem q3_8 : Cond.static yX1_longestFrom ∈ gU := gt_3 _ (List.mem_of_getElem? (i := 8) rfl) rfl
theorem q3_9 : Cond.code yX1_longestFrom cX1_longestFrom 4 (some .int) ∈ gU := gt_3 _ (List.mem_of_getElem? (i := 9) rfl) rfl
theorem q3_10 : Cond.methodLink RX1 46 yX0_neededByAny ∈ gU := gt_3 _ (List.mem_of_getElem? (i := 10) rfl) rfl
theorem q3_11 : Cond.instanceMethod yX0_neededByAny ∈ gU := gt_3 _ (List.mem_of_getElem? (i := 11) rfl) rfl
theorem q3_12 : Cond.selects RX0 yX0_neededByAny yX0_neededByAny ∈ gU := gt_3 _ (List.mem_of_getElem? (i := 12) rfl) rfl
theorem q3_13 : Cond.code yX0_neededByAny cX0_neededByAny 4 (some .int) ∈ gU := gt_3 _ (List.mem_of_getElem? (i := 13) rfl) rfl
theorem q3_14 : Cond.methodLink RL 68 yX6_loadByAccount ∈ gU := gt_3 _ (List.mem_of_getElem? (i := 14) rfl) rfl
theorem q3_15 : Cond.instanceMethod yX6_loadByAccount ∈ gU := gt_3 _ (List.mem_of_getElem? (i := 15) rfl) rfl
theorem q3_16 : Cond.selects RX6 yX6_loadByAccount yX6_loadByAccount ∈ gU := gt_3 _ (List.mem_of_getElem? (i := 16) rfl) rfl
theorem q3_17 : Cond.code yX6_loadByAccount cX6_loadByAccount 2 (some .int) ∈ gU := gt_3 _ (List.mem_of_getElem? (i := 17) rfl) rfl
theorem q3_18 : Cond.methodLink RL 74 yX6_pointsLeft ∈ gU := gt_3 _ (List.mem_of_getElem? (i := 18) rfl) rfl
theorem q3_19 : Cond.instanceMethod yX6_pointsLeft ∈ gU := gt_3 _ (List.mem_of_getElem? (i := 19) rfl) rfl
theorem q3_20 : Cond.selects RX6 yX6_pointsLeft yX6_pointsLeft ∈ gU := gt_3 _ (List.mem_of_getElem? (i := 20) rfl) rfl
theorem q3_21 : Cond.code yX6_pointsLeft cX6_pointsLeft 2 (some .int) ∈ gU := gt_3 _ (List.mem_of_getElem? (i := 21) rfl) rfl
theorem q3_22 : Cond.methodLink RX6 127 yX5_leftFor ∈ gU := gt_3 _ (List.mem_of_getElem? (i := 22) rfl) rfl
theorem q3_23 : Cond.methodLink RL 184 yL_act ∈ gU := gt_3 _ (List.mem_of_getElem? (i := 23) rfl) rfl
theorem q3_24 : Cond.static yL_act ∈ gU := gt_3 _ (List.mem_of_getElem? (i := 24) rfl) rfl
theorem q3_25 : Cond.code yL_act cL_act 7 (some .boolean) ∈ gU := gt_3 _ (List.mem_of_getElem? (i := 25) rfl) rfl
theorem q3_26 : Cond.methodLink RL 94 yL_low ∈ gU := gt_3 _ (List.mem_of_getElem? (i := 26) rfl) rfl
theorem q3_27 : Cond.static yL_low ∈ gU := gt_3 _ (List.mem_of_getElem? (i := 27) rfl) rfl
theorem q3_28 : Cond.code yL_low cL_low 2 (some .int) ∈ gU := gt_3 _ (List.mem_of_getElem? (i := 28) rfl) rfl
theorem q3_29 : Cond.constant RL 7 2147483647 ∈ gU := gt_3 _ (List.mem_of_getElem? (i := 29) rfl) rfl
theorem q3_30 : Cond.methodLink RL 100 yX6_openTicket ∈ gU := gt_3 _ (List.mem_of_getElem? (i := 30) rfl) rfl
theorem q3_31 : Cond.instanceMethod yX6_openTicket ∈ gU := gt_3 _ (List.mem_of_getElem? (i := 31) rfl) rfl
theorem q3_32 : Cond.selects RX6 yX6_openTicket yX6_openTicket ∈ gU := gt_3 _ (List.mem_of_getElem? (i := 32) rfl) rfl
theorem q3_33 : Cond.code yX6_openTicket cX6_openTicket 3 (some .int) ∈ gU := gt_3 _ (List.mem_of_getElem? (i := 33) rfl) rfl
theorem q3_34 : Cond.methodLink RX6 44 yX6_requireArgument ∈ gU := gt_3 _ (List.mem_of_getElem? (i := 34) rfl) rfl
theorem q3_35 : Cond.static yX6_requireArgument ∈ gU := gt_3 _ (List.mem_of_getElem? (i := 35) rfl) rfl
theorem q3_36 : Cond.code yX6_requireArgument cX6_requireArgument 1 none ∈ gU := gt_3 _ (List.mem_of_getElem? (i := 36) rfl) rfl
theorem q3_37 : Cond.classLink RX6 381 "java/lang/IllegalArgumentException" ∈ gU := gt_3 _ (List.mem_of_getElem? (i := 37) rfl) rfl
theorem q3_38 : Cond.instantiable "java/lang/IllegalArgumentException" 6 ∈ gU := gt_3 _ (List.mem_of_getElem? (i := 38) rfl) rfl
theorem q3_40 : Cond.selects "java/lang/IllegalArgumentException" (⟨"java/lang/Throwable", "fillInStackTrace", "(I)Ljava/lang/Throwable;"⟩ : MethodName) (⟨"java/lang/Throwable", "fillInStackTrace", "(I)Ljava/lang/Throwable;"⟩ : MethodName) ∈ gU := gt_3 _ (List.mem_of_getElem? (i := 40) rfl) rfl
theorem q3_41 : Cond.lays "java/lang/IllegalArgumentException" "java/lang/Throwable" "cause" "Ljava/lang/Throwable;" ∈ gU := gt_3 _ (List.mem_of_getElem? (i := 41) rfl) rfl
theorem q3_42 : Cond.lays "java/lang/IllegalArgumentException" "java/lang/Throwable" "stackTrace" "[Ljava/lang/StackTraceElement;" ∈ gU := gt_3 _ (List.mem_of_getElem? (i := 42) rfl) rfl
theorem q3_43 : Cond.lays "java/lang/IllegalArgumentException" "java/lang/Throwable" "suppressedExceptions" "Ljava/util/List;" ∈ gU := gt_3 _ (List.mem_of_getElem? (i := 43) rfl) rfl
theorem q3_44 : Cond.lays "java/lang/IllegalArgumentException" "java/lang/Throwable" "detailMessage" "Ljava/lang/String;" ∈ gU := gt_3 _ (List.mem_of_getElem? (i := 44) rfl) rfl
theorem q3_45 : Cond.lays "java/lang/IllegalArgumentException" "java/lang/Throwable" "backtrace" "Ljava/lang/Object;" ∈ gU := gt_3 _ (List.mem_of_getElem? (i := 45) rfl) rfl
theorem q3_47 : Cond.methodLink RX6 385 (⟨"java/lang/IllegalArgumentException", "<init>", "(Ljava/lang/String;)V"⟩ : MethodName) ∈ gU := gt_3 _ (List.mem_of_getElem? (i := 47) rfl) rfl
theorem q3_48 : Cond.instanceMethod (⟨"java/lang/IllegalArgumentException", "<init>", "(Ljava/lang/String;)V"⟩ : MethodName) ∈ gU := gt_3 _ (List.mem_of_getElem? (i := 48) rfl) rfl
theorem q3_49 : Cond.code (⟨"java/lang/IllegalArgumentException", "<init>", "(Ljava/lang/String;)V"⟩ : MethodName) prog_11_method_2_code 2 none ∈ gU := gt_3 _ (List.mem_of_getElem? (i := 49) rfl) rfl
theorem q3_50 : Cond.methodLink "java/lang/IllegalArgumentException" 7 (⟨"java/lang/RuntimeException", "<init>", "(Ljava/lang/String;)V"⟩ : MethodName) ∈ gU := gt_3 _ (List.mem_of_getElem? (i := 50) rfl) rfl
theorem q3_51 : Cond.lays "java/lang/IllegalArgumentException" "java/lang/Throwable" "depth" "I" ∈ gU := gt_3 _ (List.mem_of_getElem? (i := 51) rfl) rfl
theorem q3_53 : Cond.methodLink RX6 48 yX0_hasRoom ∈ gU := gt_3 _ (List.mem_of_getElem? (i := 53) rfl) rfl
theorem q3_54 : Cond.instanceMethod yX0_hasRoom ∈ gU := gt_3 _ (List.mem_of_getElem? (i := 54) rfl) rfl
theorem q3_55 : Cond.selects RX0 yX0_hasRoom yX0_hasRoom ∈ gU := gt_3 _ (List.mem_of_getElem? (i := 55) rfl) rfl
theorem q3_56 : Cond.code yX0_hasRoom cX0_hasRoom 1 (some .boolean) ∈ gU := gt_3 _ (List.mem_of_getElem? (i := 56) rfl) rfl
theorem q3_57 : Cond.methodLink RX6 55 yX3_save ∈ gU := gt_3 _ (List.mem_of_getElem? (i := 57) rfl) rfl
theorem q3_58 : Cond.instanceMethod yX3_save ∈ gU := gt_3 _ (List.mem_of_getElem? (i := 58) rfl) rfl
theorem q3_59 : Cond.selects RX3 yX3_save yX3_save ∈ gU := gt_3 _ (List.mem_of_getElem? (i := 59) rfl) rfl
theorem q3_60 : Cond.code yX3_save cX3_save 2 none ∈ gU := gt_3 _ (List.mem_of_getElem? (i := 60) rfl) rfl
theorem q3_61 : Cond.methodLink RX6 59 yX0_addTicket ∈ gU := gt_3 _ (List.mem_of_getElem? (i := 61) rfl) rfl
theorem q3_62 : Cond.instanceMethod yX0_addTicket ∈ gU := gt_3 _ (List.mem_of_getElem? (i := 62) rfl) rfl
theorem q3_63 : Cond.selects RX0 yX0_addTicket yX0_addTicket ∈ gU := gt_3 _ (List.mem_of_getElem? (i := 63) rfl) rfl
theorem q3_64 : Cond.code yX0_addTicket cX0_addTicket 4 (some .int) ∈ gU := gt_3 _ (List.mem_of_getElem? (i := 64) rfl) rfl
theorem q3_65 : Cond.methodLink RL 77 yX6_needs ∈ gU := gt_3 _ (List.mem_of_getElem? (i := 65) rfl) rfl
theorem q3_66 : Cond.instanceMethod yX6_needs ∈ gU := gt_3 _ (List.mem_of_getElem? (i := 66) rfl) rfl
theorem q3_67 : Cond.selects RX6 yX6_needs yX6_needs ∈ gU := gt_3 _ (List.mem_of_getElem? (i := 67) rfl) rfl
theorem q3_68 : Cond.code yX6_needs cX6_needs 3 (some .boolean) ∈ gU := gt_3 _ (List.mem_of_getElem? (i := 68) rfl) rfl
theorem q3_69 : Cond.methodLink RX6 86 yX0_needsDirectly ∈ gU := gt_3 _ (List.mem_of_getElem? (i := 69) rfl) rfl
theorem q3_70 : Cond.methodLink RL 103 yL_reaches ∈ gU := gt_3 _ (List.mem_of_getElem? (i := 70) rfl) rfl
theorem q3_71 : Cond.static yL_reaches ∈ gU := gt_3 _ (List.mem_of_getElem? (i := 71) rfl) rfl
theorem q3_72 : Cond.code yL_reaches cL_reaches 7 (some .boolean) ∈ gU := gt_3 _ (List.mem_of_getElem? (i := 72) rfl) rfl
theorem q3_73 : Cond.methodLink RL 107 yX6_need ∈ gU := gt_3 _ (List.mem_of_getElem? (i := 73) rfl) rfl
theorem q3_74 : Cond.instanceMethod yX6_need ∈ gU := gt_3 _ (List.mem_of_getElem? (i := 74) rfl) rfl
theorem q3_75 : Cond.selects RX6 yX6_need yX6_need ∈ gU := gt_3 _ (List.mem_of_getElem? (i := 75) rfl) rfl
theorem q3_76 : Cond.code yX6_need cX6_need 3 (some .int) ∈ gU := gt_3 _ (List.mem_of_getElem? (i := 76) rfl) rfl
theorem q3_77 : Cond.methodLink RX6 80 yX0_canNeed ∈ gU := gt_3 _ (List.mem_of_getElem? (i := 77) rfl) rfl
theorem q3_78 : Cond.instanceMethod yX0_canNeed ∈ gU := gt_3 _ (List.mem_of_getElem? (i := 78) rfl) rfl
theorem q3_79 : Cond.selects RX0 yX0_canNeed yX0_canNeed ∈ gU := gt_3 _ (List.mem_of_getElem? (i := 79) rfl) rfl
theorem q3_80 : Cond.code yX0_canNeed cX0_canNeed 3 (some .boolean) ∈ gU := gt_3 _ (List.mem_of_getElem? (i := 80) rfl) rfl
theorem q3_81 : Cond.methodLink RX0 109 yX0_needsDirectly ∈ gU := gt_3 _ (List.mem_of_getElem? (i := 81) rfl) rfl
theorem q3_82 : Cond.methodLink RX0 112 yX0_reachedFrom ∈ gU := gt_3 _ (List.mem_of_getElem? (i := 82) rfl) rfl
theorem q3_83 : Cond.instanceMethod yX0_reachedFrom ∈ gU := gt_3 _ (List.mem_of_getElem? (i := 83) rfl) rfl
theorem q3_84 : Cond.selects RX0 yX0_reachedFrom yX0_reachedFrom ∈ gU := gt_3 _ (List.mem_of_getElem? (i := 84) rfl) rfl
theorem q3_85 : Cond.code yX0_reachedFrom cX0_reachedFrom 5 (some .int) ∈ gU := gt_3 _ (List.mem_of_getElem? (i := 85) rfl) rfl
theorem q3_86 : Cond.methodLink RX0 103 yX0_neededByAny ∈ gU := gt_3 _ (List.mem_of_getElem? (i := 86) rfl) rfl
theorem q3_87 : Cond.methodLink RX6 83 yX0_addNeed ∈ gU := gt_3 _ (List.mem_of_getElem? (i := 87) rfl) rfl
theorem q3_88 : Cond.instanceMethod yX0_addNeed ∈ gU := gt_3 _ (List.mem_of_getElem? (i := 88) rfl) rfl
theorem q3_89 : Cond.selects RX0 yX0_addNeed yX0_addNeed ∈ gU := gt_3 _ (List.mem_of_getElem? (i := 89) rfl) rfl
theorem q3_90 : Cond.code yX0_addNeed cX0_addNeed 3 (some .int) ∈ gU := gt_3 _ (List.mem_of_getElem? (i := 90) rfl) rfl
theorem q3_91 : Cond.methodLink RX0 128 yJ6_bitCount_0f7a4 ∈ gU := gt_3 _ (List.mem_of_getElem? (i := 91) rfl) rfl
theorem q3_92 : Cond.methodLink RL 110 yX6_loadByTickets ∈ gU := gt_3 _ (List.mem_of_getElem? (i := 92) rfl) rfl
theorem q3_93 : Cond.instanceMethod yX6_loadByTickets ∈ gU := gt_3 _ (List.mem_of_getElem? (i := 93) rfl) rfl
theorem q3_94 : Cond.selects RX6 yX6_loadByTickets yX6_loadByTickets ∈ gU := gt_3 _ (List.mem_of_getElem? (i := 94) rfl) rfl
theorem q3_95 : Cond.code yX6_loadByTickets cX6_loadByTickets 2 (some .int) ∈ gU := gt_3 _ (List.mem_of_getElem? (i := 95) rfl) rfl
theorem q3_96 : Cond.methodLink RX6 269 yX5_loadOf ∈ gU := gt_3 _ (List.mem_of_getElem? (i := 96) rfl) rfl
theorem q3_97 : Cond.static yX5_loadOf ∈ gU := gt_3 _ (List.mem_of_getElem? (i := 97) rfl) rfl
theorem q3_98 : Cond.code yX5_loadOf cX5_loadOf 2 (some .int) ∈ gU := gt_3 _ (List.mem_of_getElem? (i := 98) rfl) rfl
theorem q3_99 : Cond.methodLink RX5 9 yX0_ownedBy ∈ gU := gt_3 _ (List.mem_of_getElem? (i := 99) rfl) rfl
theorem q3_100 : Cond.instanceMethod yX0_ownedBy ∈ gU := gt_3 _ (List.mem_of_getElem? (i := 100) rfl) rfl
theorem q3_101 : Cond.selects RX0 yX0_ownedBy yX0_ownedBy ∈ gU := gt_3 _ (List.mem_of_getElem? (i := 101) rfl) rfl
theorem q3_102 : Cond.code yX0_ownedBy cX0_ownedBy 2 (some .int) ∈ gU := gt_3 _ (List.mem_of_getElem? (i := 102) rfl) rfl
theorem q3_103 : Cond.methodLink RL 113 yX6_assign ∈ gU := gt_3 _ (List.mem_of_getElem? (i := 103) rfl) rfl
theorem q3_104 : Cond.instanceMethod yX6_assign ∈ gU := gt_3 _ (List.mem_of_getElem? (i := 104) rfl) rfl
theorem q3_105 : Cond.selects RX6 yX6_assign yX6_assign ∈ gU := gt_3 _ (List.mem_of_getElem? (i := 105) rfl) rfl
theorem q3_106 : Cond.code yX6_assign cX6_assign 3 (some .int) ∈ gU := gt_3 _ (List.mem_of_getElem? (i := 106) rfl) rfl
theorem q3_107 : Cond.methodLink RX6 95 yX0_canBeGivenTo ∈ gU := gt_3 _ (List.mem_of_getElem? (i := 107) rfl) rfl
theorem q3_108 : Cond.instanceMethod yX0_canBeGivenTo ∈ gU := gt_3 _ (List.mem_of_getElem? (i := 108) rfl) rfl
theorem q3_109 : Cond.selects RX0 yX0_canBeGivenTo yX0_canBeGivenTo ∈ gU := gt_3 _ (List.mem_of_getElem? (i := 109) rfl) rfl
theorem q3_110 : Cond.code yX0_canBeGivenTo cX0_canBeGivenTo 3 (some .boolean) ∈ gU := gt_3 _ (List.mem_of_getElem? (i := 110) rfl) rfl
theorem q3_111 : Cond.methodLink RX0 106 yX0_hasCapacity ∈ gU := gt_3 _ (List.mem_of_getElem? (i := 111) rfl) rfl
theorem q3_113 : Cond.instanceMethod yX0_hasCapacity ∈ gU := gt_3 _ (List.mem_of_getElem? (i := 113) rfl) rfl
theorem q3_114 : Cond.code yX0_hasCapacity cX0_hasCapacity 3 (some .boolean) ∈ gU := gt_3 _ (List.mem_of_getElem? (i := 114) rfl) rfl
theorem q3_115 : Cond.methodLink RX6 98 yX0_giveTo ∈ gU := gt_3 _ (List.mem_of_getElem? (i := 115) rfl) rfl
theorem q3_116 : Cond.instanceMethod yX0_giveTo ∈ gU := gt_3 _ (List.mem_of_getElem? (i := 116) rfl) rfl
theorem q3_117 : Cond.selects RX0 yX0_giveTo yX0_giveTo ∈ gU := gt_3 _ (List.mem_of_getElem? (i := 117) rfl) rfl
theorem q3_118 : Cond.code yX0_giveTo cX0_giveTo 3 (some .int) ∈ gU := gt_3 _ (List.mem_of_getElem? (i := 118) rfl) rfl
theorem q3_119 : Cond.methodLink RX0 124 yX0_addLoad ∈ gU := gt_3 _ (List.mem_of_getElem? (i := 119) rfl) rfl
theorem q3_121 : Cond.instanceMethod yX0_addLoad ∈ gU := gt_3 _ (List.mem_of_getElem? (i := 121) rfl) rfl
theorem q3_122 : Cond.code yX0_addLoad cX0_addLoad 3 none ∈ gU := gt_3 _ (List.mem_of_getElem? (i := 122) rfl) rfl
theorem q3_123 : Cond.methodLink RL 116 yX6_plan ∈ gU := gt_3 _ (List.mem_of_getElem? (i := 123) rfl) rfl
theorem q3_124 : Cond.instanceMethod yX6_plan ∈ gU := gt_3 _ (List.mem_of_getElem? (i := 124) rfl) rfl
theorem q3_125 : Cond.selects RX6 yX6_plan yX6_plan ∈ gU := gt_3 _ (List.mem_of_getElem? (i := 125) rfl) rfl
theorem q3_126 : Cond.code yX6_plan cX6_plan 3 (some .int) ∈ gU := gt_3 _ (List.mem_of_getElem? (i := 126) rfl) rfl
theorem q3_127 : Cond.methodLink RX6 121 yX0_isUnfinished ∈ gU := gt_3 _ (List.mem_of_getElem? (i := 127) rfl) rfl
theorem q3_128 : Cond.methodLink RL 119 yX6_drop ∈ gU := gt_3 _ (List.mem_of_getElem? (i := 128) rfl) rfl
theorem q3_129 : Cond.instanceMethod yX6_drop ∈ gU := gt_3 _ (List.mem_of_getElem? (i := 129) rfl) rfl
theorem q3_130 : Cond.selects RX6 yX6_drop yX6_drop ∈ gU := gt_3 _ (List.mem_of_getElem? (i := 130) rfl) rfl
theorem q3_131 : Cond.code yX6_drop cX6_drop 3 (some .int) ∈ gU := gt_3 _ (List.mem_of_getElem? (i := 131) rfl) rfl
theorem q3_132 : Cond.methodLink RX6 154 yX0_blockedSet ∈ gU := gt_3 _ (List.mem_of_getElem? (i := 132) rfl) rfl
theorem q3_133 : Cond.instanceMethod yX0_blockedSet ∈ gU := gt_3 _ (List.mem_of_getElem? (i := 133) rfl) rfl
theorem q3_134 : Cond.selects RX0 yX0_blockedSet yX0_blockedSet ∈ gU := gt_3 _ (List.mem_of_getElem? (i := 134) rfl) rfl
theorem q3_135 : Cond.code yX0_blockedSet cX0_blockedSet 1 (some .int) ∈ gU := gt_3 _ (List.mem_of_getElem? (i := 135) rfl) rfl
theorem q3_136 : Cond.methodLink RX0 99 yX0_unfinishedSet ∈ gU := gt_3 _ (List.mem_of_getElem? (i := 136) rfl) rfl
theorem q3_137 : Cond.methodLink RX0 96 yX0_thoseThatNeedAny ∈ gU := gt_3 _ (List.mem_of_getElem? (i := 137) rfl) rfl
theorem q3_138 : Cond.instanceMethod yX0_thoseThatNeedAny ∈ gU := gt_3 _ (List.mem_of_getElem? (i := 138) rfl) rfl
theorem q3_139 : Cond.selects RX0 yX0_thoseThatNeedAny yX0_thoseThatNeedAny ∈ gU := gt_3 _ (List.mem_of_getElem? (i := 139) rfl) rfl
theorem q3_140 : Cond.code yX0_thoseThatNeedAny cX0_thoseThatNeedAny 4 (some .int) ∈ gU := gt_3 _ (List.mem_of_getElem? (i := 140) rfl) rfl
theorem q3_141 : Cond.methodLink RX6 173 yX0_leaveOff ∈ gU := gt_3 _ (List.mem_of_getElem? (i := 141) rfl) rfl
theorem q3_142 : Cond.instanceMethod yX0_leaveOff ∈ gU := gt_3 _ (List.mem_of_getElem? (i := 142) rfl) rfl
theorem q3_143 : Cond.selects RX0 yX0_leaveOff yX0_leaveOff ∈ gU := gt_3 _ (List.mem_of_getElem? (i := 143) rfl) rfl
theorem q3_144 : Cond.code yX0_leaveOff cX0_leaveOff 3 none ∈ gU := gt_3 _ (List.mem_of_getElem? (i := 144) rfl) rfl
theorem q3_145 : Cond.methodLink RL 122 yX6_endDays ∈ gU := gt_3 _ (List.mem_of_getElem? (i := 145) rfl) rfl
theorem q3_146 : Cond.instanceMethod yX6_endDays ∈ gU := gt_3 _ (List.mem_of_getElem? (i := 146) rfl) rfl
theorem q3_147 : Cond.selects RX6 yX6_endDays yX6_endDays ∈ gU := gt_3 _ (List.mem_of_getElem? (i := 147) rfl) rfl
theorem q3_148 : Cond.code yX6_endDays cX6_endDays 2 (some .int) ∈ gU := gt_3 _ (List.mem_of_getElem? (i := 148) rfl) rfl
theorem q3_149 : Cond.methodLink RX6 139 yX0_canPass ∈ gU := gt_3 _ (List.mem_of_getElem? (i := 149) rfl) rfl
theorem q3_150 : Cond.instanceMethod yX0_canPass ∈ gU := gt_3 _ (List.mem_of_getElem? (i := 150) rfl) rfl
theorem q3_151 : Cond.selects RX0 yX0_canPass yX0_canPass ∈ gU := gt_3 _ (List.mem_of_getElem? (i := 151) rfl) rfl
theorem q3_152 : Cond.code yX0_canPass cX0_canPass 2 (some .boolean) ∈ gU := gt_3 _ (List.mem_of_getElem? (i := 152) rfl) rfl
theorem q3_153 : Cond.methodLink RX6 142 yX0_pass ∈ gU := gt_3 _ (List.mem_of_getElem? (i := 153) rfl) rfl
theorem q3_154 : Cond.instanceMethod yX0_pass ∈ gU := gt_3 _ (List.mem_of_getElem? (i := 154) rfl) rfl
theorem q3_155 : Cond.selects RX0 yX0_pass yX0_pass ∈ gU := gt_3 _ (List.mem_of_getElem? (i := 155) rfl) rfl
theorem q3_156 : Cond.code yX0_pass cX0_pass 3 (some .int) ∈ gU := gt_3 _ (List.mem_of_getElem? (i := 156) rfl) rfl
theorem q3_157 : Cond.methodLink RL 125 yX6_changeDate ∈ gU := gt_3 _ (List.mem_of_getElem? (i := 157) rfl) rfl
theorem q3_158 : Cond.instanceMethod yX6_changeDate ∈ gU := gt_3 _ (List.mem_of_getElem? (i := 158) rfl) rfl
theorem q3_159 : Cond.selects RX6 yX6_changeDate yX6_changeDate ∈ gU := gt_3 _ (List.mem_of_getElem? (i := 159) rfl) rfl
theorem q3_160 : Cond.code yX6_changeDate cX6_changeDate 3 (some .int) ∈ gU := gt_3 _ (List.mem_of_getElem? (i := 160) rfl) rfl
theorem q3_161 : Cond.methodLink RX6 136 yX0_setDate ∈ gU := gt_3 _ (List.mem_of_getElem? (i := 161) rfl) rfl
theorem q3_162 : Cond.instanceMethod yX0_setDate ∈ gU := gt_3 _ (List.mem_of_getElem? (i := 162) rfl) rfl
theorem q3_163 : Cond.selects RX0 yX0_setDate yX0_setDate ∈ gU := gt_3 _ (List.mem_of_getElem? (i := 163) rfl) rfl
theorem q3_164 : Cond.code yX0_setDate cX0_setDate 4 (some .int) ∈ gU := gt_3 _ (List.mem_of_getElem? (i := 164) rfl) rfl
theorem q3_165 : Cond.methodLink RL 128 yL_move ∈ gU := gt_3 _ (List.mem_of_getElem? (i := 165) rfl) rfl
theorem q3_166 : Cond.static yL_move ∈ gU := gt_3 _ (List.mem_of_getElem? (i := 166) rfl) rfl
theorem q3_167 : Cond.code yL_move cL_move 2 (some .boolean) ∈ gU := gt_3 _ (List.mem_of_getElem? (i := 167) rfl) rfl
theorem q3_168 : Cond.methodLink RL 81 yX6_start ∈ gU := gt_3 _ (List.mem_of_getElem? (i := 168) rfl) rfl
theorem q3_169 : Cond.instanceMethod yX6_start ∈ gU := gt_3 _ (List.mem_of_getElem? (i := 169) rfl) rfl
theorem q3_170 : Cond.selects RX6 yX6_start yX6_start ∈ gU := gt_3 _ (List.mem_of_getElem? (i := 170) rfl) rfl
theorem q3_171 : Cond.code yX6_start cX6_start 2 none ∈ gU := gt_3 _ (List.mem_of_getElem? (i := 171) rfl) rfl
theorem q3_172 : Cond.methodLink RX6 145 yX0_canStart ∈ gU := gt_3 _ (List.mem_of_getElem? (i := 172) rfl) rfl
theorem q3_173 : Cond.instanceMethod yX0_canStart ∈ gU := gt_3 _ (List.mem_of_getElem? (i := 173) rfl) rfl
theorem q3_174 : Cond.selects RX0 yX0_canStart yX0_canStart ∈ gU := gt_3 _ (List.mem_of_getElem? (i := 174) rfl) rfl
theorem q3_175 : Cond.code yX0_canStart cX0_canStart 2 (some .boolean) ∈ gU := gt_3 _ (List.mem_of_getElem? (i := 175) rfl) rfl
theorem q3_176 : Cond.methodLink RL 85 yX6_submit ∈ gU := gt_3 _ (List.mem_of_getElem? (i := 176) rfl) rfl
theorem q3_177 : Cond.instanceMethod yX6_submit ∈ gU := gt_3 _ (List.mem_of_getElem? (i := 177) rfl) rfl
theorem q3_178 : Cond.selects RX6 yX6_submit yX6_submit ∈ gU := gt_3 _ (List.mem_of_getElem? (i := 178) rfl) rfl
theorem q3_179 : Cond.code yX6_submit cX6_submit 2 none ∈ gU := gt_3 _ (List.mem_of_getElem? (i := 179) rfl) rfl
theorem q3_180 : Cond.methodLink RL 88 yX6_isBlocked ∈ gU := gt_3 _ (List.mem_of_getElem? (i := 180) rfl) rfl
theorem q3_181 : Cond.instanceMethod yX6_isBlocked ∈ gU := gt_3 _ (List.mem_of_getElem? (i := 181) rfl) rfl
theorem q3_182 : Cond.selects RX6 yX6_isBlocked yX6_isBlocked ∈ gU := gt_3 _ (List.mem_of_getElem? (i := 182) rfl) rfl
theorem q3_183 : Cond.code yX6_isBlocked cX6_isBlocked 2 (some .boolean) ∈ gU := gt_3 _ (List.mem_of_getElem? (i := 183) rfl) rfl
theorem q3_184 : Cond.methodLink RX6 248 yX0_blockerSet ∈ gU := gt_3 _ (List.mem_of_getElem? (i := 184) rfl) rfl
theorem q3_185 : Cond.instanceMethod yX0_blockerSet ∈ gU := gt_3 _ (List.mem_of_getElem? (i := 185) rfl) rfl
theorem q3_186 : Cond.selects RX0 yX0_blockerSet yX0_blockerSet ∈ gU := gt_3 _ (List.mem_of_getElem? (i := 186) rfl) rfl
theorem q3_187 : Cond.code yX0_blockerSet cX0_blockerSet 2 (some .int) ∈ gU := gt_3 _ (List.mem_of_getElem? (i := 187) rfl) rfl
theorem q3_188 : Cond.methodLink RL 91 yX6_close ∈ gU := gt_3 _ (List.mem_of_getElem? (i := 188) rfl) rfl
theorem q3_189 : Cond.instanceMethod yX6_close ∈ gU := gt_3 _ (List.mem_of_getElem? (i := 189) rfl) rfl
theorem q3_190 : Cond.selects RX6 yX6_close yX6_close ∈ gU := gt_3 _ (List.mem_of_getElem? (i := 190) rfl) rfl
theorem q3_191 : Cond.code yX6_close cX6_close 3 (some .int) ∈ gU := gt_3 _ (List.mem_of_getElem? (i := 191) rfl) rfl
theorem q3_192 : Cond.methodLink RX6 151 yX0_canClose ∈ gU := gt_3 _ (List.mem_of_getElem? (i := 192) rfl) rfl
theorem q3_193 : Cond.instanceMethod yX0_canClose ∈ gU := gt_3 _ (List.mem_of_getElem? (i := 193) rfl) rfl
theorem q3_194 : Cond.selects RX0 yX0_canClose yX0_canClose ∈ gU := gt_3 _ (List.mem_of_getElem? (i := 194) rfl) rfl
theorem q3_195 : Cond.code yX0_canClose cX0_canClose 2 (some .boolean) ∈ gU := gt_3 _ (List.mem_of_getElem? (i := 195) rfl) rfl
theorem q3_196 : Cond.methodLink RX0 115 yX0_blockerSet ∈ gU := gt_3 _ (List.mem_of_getElem? (i := 196) rfl) rfl
theorem q3_197 : Cond.methodLink RX6 158 yX0_finish ∈ gU := gt_3 _ (List.mem_of_getElem? (i := 197) rfl) rfl
theorem q3_198 : Cond.instanceMethod yX0_finish ∈ gU := gt_3 _ (List.mem_of_getElem? (i := 198) rfl) rfl
theorem q3_199 : Cond.selects RX0 yX0_finish yX0_finish ∈ gU := gt_3 _ (List.mem_of_getElem? (i := 199) rfl) rfl
theorem q3_200 : Cond.code yX0_finish cX0_finish 2 none ∈ gU := gt_3 _ (List.mem_of_getElem? (i := 200) rfl) rfl
theorem q3_201 : Cond.methodLink RX0 133 yX0_leaveOff ∈ gU := gt_3 _ (List.mem_of_getElem? (i := 201) rfl) rfl
theorem q3_202 : Cond.methodLink RL 190 yL_holds ∈ gU := gt_3 _ (List.mem_of_getElem? (i := 202) rfl) rfl
theorem q3_203 : Cond.static yL_holds ∈ gU := gt_3 _ (List.mem_of_getElem? (i := 203) rfl) rfl
theorem q3_204 : Cond.code yL_holds cL_holds 7 (some .boolean) ∈ gU := gt_3 _ (List.mem_of_getElem? (i := 204) rfl) rfl
theorem q3_205 : Cond.methodLink RL 132 yX6_withState ∈ gU := gt_3 _ (List.mem_of_getElem? (i := 205) rfl) rfl
theorem q3_206 : Cond.instanceMethod yX6_withState ∈ gU := gt_3 _ (List.mem_of_getElem? (i := 206) rfl) rfl
theorem q3_207 : Cond.selects RX6 yX6_withState yX6_withState ∈ gU := gt_3 _ (List.mem_of_getElem? (i := 207) rfl) rfl
theorem q3_208 : Cond.code yX6_withState cX6_withState 2 (some .int) ∈ gU := gt_3 _ (List.mem_of_getElem? (i := 208) rfl) rfl
theorem q3_209 : Cond.methodLink RX6 312 yX0_inState ∈ gU := gt_3 _ (List.mem_of_getElem? (i := 209) rfl) rfl
theorem q3_210 : Cond.methodLink RL 135 yX6_pointsWith ∈ gU := gt_3 _ (List.mem_of_getElem? (i := 210) rfl) rfl
theorem q3_211 : Cond.instanceMethod yX6_pointsWith ∈ gU := gt_3 _ (List.mem_of_getElem? (i := 211) rfl) rfl
theorem q3_212 : Cond.selects RX6 yX6_pointsWith yX6_pointsWith ∈ gU := gt_3 _ (List.mem_of_getElem? (i := 212) rfl) rfl
theorem q3_213 : Cond.code yX6_pointsWith cX6_pointsWith 2 (some .int) ∈ gU := gt_3 _ (List.mem_of_getElem? (i := 213) rfl) rfl
theorem q3_214 : Cond.methodLink RX6 315 yX0_pointsOfSet ∈ gU := gt_3 _ (List.mem_of_getElem? (i := 214) rfl) rfl
theorem q3_215 : Cond.methodLink RL 138 yX6_blockersOf ∈ gU := gt_3 _ (List.mem_of_getElem? (i := 215) rfl) rfl
theorem q3_216 : Cond.instanceMethod yX6_blockersOf ∈ gU := gt_3 _ (List.mem_of_getElem? (i := 216) rfl) rfl
theorem q3_217 : Cond.selects RX6 yX6_blockersOf yX6_blockersOf ∈ gU := gt_3 _ (List.mem_of_getElem? (i := 217) rfl) rfl
theorem q3_218 : Cond.code yX6_blockersOf cX6_blockersOf 2 (some .int) ∈ gU := gt_3 _ (List.mem_of_getElem? (i := 218) rfl) rfl
theorem q3_219 : Cond.methodLink RL 141 yX6_allNeedsByGoing ∈ gU := gt_3 _ (List.mem_of_getElem? (i := 219) rfl) rfl
theorem q3_220 : Cond.instanceMethod yX6_allNeedsByGoing ∈ gU := gt_3 _ (List.mem_of_getElem? (i := 220) rfl) rfl
theorem q3_221 : Cond.selects RX6 yX6_allNeedsByGoing yX6_allNeedsByGoing ∈ gU := gt_3 _ (List.mem_of_getElem? (i := 221) rfl) rfl
theorem q3_222 : Cond.code yX6_allNeedsByGoing cX6_allNeedsByGoing 2 (some .int) ∈ gU := gt_3 _ (List.mem_of_getElem? (i := 222) rfl) rfl
theorem q3_223 : Cond.methodLink RX6 251 yX0_reachedFrom ∈ gU := gt_3 _ (List.mem_of_getElem? (i := 223) rfl) rfl
theorem q3_224 : Cond.methodLink RL 144 yX6_allNeedsByTable ∈ gU := gt_3 _ (List.mem_of_getElem? (i := 224) rfl) rfl
theorem q3_225 : Cond.instanceMethod yX6_allNeedsByTable ∈ gU := gt_3 _ (List.mem_of_getElem? (i := 225) rfl) rfl
theorem q3_226 : Cond.selects RX6 yX6_allNeedsByTable yX6_allNeedsByTable ∈ gU := gt_3 _ (List.mem_of_getElem? (i := 226) rfl) rfl
theorem q3_227 : Cond.code yX6_allNeedsByTable cX6_allNeedsByTable 2 (some .int) ∈ gU := gt_3 _ (List.mem_of_getElem? (i := 227) rfl) rfl
theorem q3_228 : Cond.methodLink RX6 254 yX1_countByTable ∈ gU := gt_3 _ (List.mem_of_getElem? (i := 228) rfl) rfl
theorem q3_229 : Cond.instanceMethod yX1_countByTable ∈ gU := gt_3 _ (List.mem_of_getElem? (i := 229) rfl) rfl
theorem q3_230 : Cond.selects RX1 yX1_countByTable yX1_countByTable ∈ gU := gt_3 _ (List.mem_of_getElem? (i := 230) rfl) rfl
theorem q3_231 : Cond.code yX1_countByTable cX1_countByTable 6 (some .int) ∈ gU := gt_3 _ (List.mem_of_getElem? (i := 231) rfl) rfl
theorem q3_232 : Cond.methodLink RX1 37 yJ6_bitCount_0f7a4 ∈ gU := gt_3 _ (List.mem_of_getElem? (i := 232) rfl) rfl
theorem q3_233 : Cond.methodLink RL 147 yX6_isLate ∈ gU := gt_3 _ (List.mem_of_getElem? (i := 233) rfl) rfl
theorem q3_234 : Cond.instanceMethod yX6_isLate ∈ gU := gt_3 _ (List.mem_of_getElem? (i := 234) rfl) rfl
theorem q3_235 : Cond.selects RX6 yX6_isLate yX6_isLate ∈ gU := gt_3 _ (List.mem_of_getElem? (i := 235) rfl) rfl
theorem q3_236 : Cond.code yX6_isLate cX6_isLate 2 (some .boolean) ∈ gU := gt_3 _ (List.mem_of_getElem? (i := 236) rfl) rfl
theorem q3_237 : Cond.methodLink RX6 290 yX5_isOverdue ∈ gU := gt_3 _ (List.mem_of_getElem? (i := 237) rfl) rfl
theorem q3_238 : Cond.static yX5_isOverdue ∈ gU := gt_3 _ (List.mem_of_getElem? (i := 238) rfl) rfl
theorem q3_239 : Cond.code yX5_isOverdue cX5_isOverdue 2 (some .boolean) ∈ gU := gt_3 _ (List.mem_of_getElem? (i := 239) rfl) rfl
theorem q4_0 : Cond.methodLink RL 153 yX6_allPoints ∈ gU := gt_4 _ (List.mem_of_getElem? (i := 0) rfl) rfl
theorem q4_1 : Cond.instanceMethod yX6_allPoints ∈ gU := gt_4 _ (List.mem_of_getElem? (i := 1) rfl) rfl
theorem q4_2 : Cond.selects RX6 yX6_allPoints yX6_allPoints ∈ gU := gt_4 _ (List.mem_of_getElem? (i := 2) rfl) rfl
theorem q4_3 : Cond.code yX6_allPoints cX6_allPoints 1 (some .int) ∈ gU := gt_4 _ (List.mem_of_getElem? (i := 3) rfl) rfl
theorem q4_4 : Cond.constant RX6 318 1048575 ∈ gU := gt_4 _ (List.mem_of_getElem? (i := 4) rfl) rfl
theorem q4_5 : Cond.methodLink RL 156 yX6_blockedTickets ∈ gU := gt_4 _ (List.mem_of_getElem? (i := 5) rfl) rfl
theorem q4_6 : Cond.instanceMethod yX6_blockedTickets ∈ gU := gt_4 _ (List.mem_of_getElem? (i := 6) rfl) rfl
theorem q4_7 : Cond.selects RX6 yX6_blockedTickets yX6_blockedTickets ∈ gU := gt_4 _ (List.mem_of_getElem? (i := 7) rfl) rfl
theorem q4_8 : Cond.code yX6_blockedTickets cX6_blockedTickets 1 (some .int) ∈ gU := gt_4 _ (List.mem_of_getElem? (i := 8) rfl) rfl
theorem q4_9 : Cond.methodLink RX6 319 yX5_blockedAndUnfinished ∈ gU := gt_4 _ (List.mem_of_getElem? (i := 9) rfl) rfl
theorem q4_10 : Cond.static yX5_blockedAndUnfinished ∈ gU := gt_4 _ (List.mem_of_getElem? (i := 10) rfl) rfl
theorem q4_11 : Cond.code yX5_blockedAndUnfinished cX5_blockedAndUnfinished 1 (some .int) ∈ gU := gt_4 _ (List.mem_of_getElem? (i := 11) rfl) rfl
theorem q4_12 : Cond.methodLink RX5 69 yX0_blockedSet ∈ gU := gt_4 _ (List.mem_of_getElem? (i := 12) rfl) rfl
theorem q4_13 : Cond.methodLink RX5 25 yJ6_bitCount_0f7a4 ∈ gU := gt_4 _ (List.mem_of_getElem? (i := 13) rfl) rfl
theorem q4_14 : Cond.methodLink RL 159 yX6_lateMilestones ∈ gU := gt_4 _ (List.mem_of_getElem? (i := 14) rfl) rfl
theorem q4_15 : Cond.instanceMethod yX6_lateMilestones ∈ gU := gt_4 _ (List.mem_of_getElem? (i := 15) rfl) rfl
theorem q4_16 : Cond.selects RX6 yX6_lateMilestones yX6_lateMilestones ∈ gU := gt_4 _ (List.mem_of_getElem? (i := 16) rfl) rfl
theorem q4_17 : Cond.code yX6_lateMilestones cX6_lateMilestones 1 (some .int) ∈ gU := gt_4 _ (List.mem_of_getElem? (i := 17) rfl) rfl
theorem q4_18 : Cond.methodLink RX6 297 yX5_overdueMilestones ∈ gU := gt_4 _ (List.mem_of_getElem? (i := 18) rfl) rfl
theorem q4_19 : Cond.static yX5_overdueMilestones ∈ gU := gt_4 _ (List.mem_of_getElem? (i := 19) rfl) rfl
theorem q4_20 : Cond.code yX5_overdueMilestones cX5_overdueMilestones 3 (some .int) ∈ gU := gt_4 _ (List.mem_of_getElem? (i := 20) rfl) rfl
theorem q4_21 : Cond.methodLink RX5 59 yX5_isOverdue ∈ gU := gt_4 _ (List.mem_of_getElem? (i := 21) rfl) rfl
theorem q4_22 : Cond.methodLink RL 162 yX6_criticalByTrying ∈ gU := gt_4 _ (List.mem_of_getElem? (i := 22) rfl) rfl
theorem q4_23 : Cond.instanceMethod yX6_criticalByTrying ∈ gU := gt_4 _ (List.mem_of_getElem? (i := 23) rfl) rfl
theorem q4_24 : Cond.selects RX6 yX6_criticalByTrying yX6_criticalByTrying ∈ gU := gt_4 _ (List.mem_of_getElem? (i := 24) rfl) rfl
theorem q4_25 : Cond.code yX6_criticalByTrying cX6_criticalByTrying 1 (some .int) ∈ gU := gt_4 _ (List.mem_of_getElem? (i := 25) rfl) rfl
theorem q4_26 : Cond.methodLink RX6 260 yX1_mostPointsByTrying ∈ gU := gt_4 _ (List.mem_of_getElem? (i := 26) rfl) rfl
theorem q4_27 : Cond.instanceMethod yX1_mostPointsByTrying ∈ gU := gt_4 _ (List.mem_of_getElem? (i := 27) rfl) rfl
theorem q4_28 : Cond.selects RX1 yX1_mostPointsByTrying yX1_mostPointsByTrying ∈ gU := gt_4 _ (List.mem_of_getElem? (i := 28) rfl) rfl
theorem q4_29 : Cond.code yX1_mostPointsByTrying cX1_mostPointsByTrying 4 (some .int) ∈ gU := gt_4 _ (List.mem_of_getElem? (i := 29) rfl) rfl
theorem q4_30 : Cond.methodLink RX1 56 yX1_tryFrom ∈ gU := gt_4 _ (List.mem_of_getElem? (i := 30) rfl) rfl
theorem q4_31 : Cond.static yX1_tryFrom ∈ gU := gt_4 _ (List.mem_of_getElem? (i := 31) rfl) rfl
theorem q4_32 : Cond.code yX1_tryFrom cX1_tryFrom 6 (some .int) ∈ gU := gt_4 _ (List.mem_of_getElem? (i := 32) rfl) rfl
theorem q4_33 : Cond.methodLink RL 165 yX6_pointsOfWeek ∈ gU := gt_4 _ (List.mem_of_getElem? (i := 33) rfl) rfl
theorem q4_34 : Cond.instanceMethod yX6_pointsOfWeek ∈ gU := gt_4 _ (List.mem_of_getElem? (i := 34) rfl) rfl
theorem q4_35 : Cond.selects RX6 yX6_pointsOfWeek yX6_pointsOfWeek ∈ gU := gt_4 _ (List.mem_of_getElem? (i := 35) rfl) rfl
theorem q4_36 : Cond.code yX6_pointsOfWeek cX6_pointsOfWeek 1 (some .int) ∈ gU := gt_4 _ (List.mem_of_getElem? (i := 36) rfl) rfl
theorem q4_37 : Cond.methodLink RX6 325 yX5_closedInWeek ∈ gU := gt_4 _ (List.mem_of_getElem? (i := 37) rfl) rfl
theorem q4_38 : Cond.static yX5_closedInWeek ∈ gU := gt_4 _ (List.mem_of_getElem? (i := 38) rfl) rfl
theorem q4_39 : Cond.code yX5_closedInWeek cX5_closedInWeek 3 (some .int) ∈ gU := gt_4 _ (List.mem_of_getElem? (i := 39) rfl) rfl
theorem qs_0 : Cond.selects "java/lang/Throwable" (⟨"java/lang/Throwable", "fillInStackTrace", "(I)Ljava/lang/Throwable;"⟩ : MethodName) (⟨"java/lang/Throwable", "fillInStackTrace", "(I)Ljava/lang/Throwable;"⟩ : MethodName) ∈ gU := gt_s _ (List.mem_of_getElem? (i := 0) rfl) rfl
theorem qs_1 : Cond.selects RX0 yX0_setWhere yX0_setWhere ∈ gU := gt_s _ (List.mem_of_getElem? (i := 1) rfl) rfl
theorem qs_2 : Cond.selects RX1 yX1_bestNeeded yX1_bestNeeded ∈ gU := gt_s _ (List.mem_of_getElem? (i := 2) rfl) rfl
theorem qs_3 : Cond.selects RX0 yX0_hasCapacity yX0_hasCapacity ∈ gU := gt_s _ (List.mem_of_getElem? (i := 3) rfl) rfl
theorem qs_4 : Cond.selects RX0 yX0_addLoad yX0_addLoad ∈ gU := gt_s _ (List.mem_of_getElem? (i := 4) rfl) rfl
