/-- the words that the walks use: those of the tables that stay -/
def gU : List Cond := lw_tbl.filter goodWord
theorem gt_1 : ∀ w ∈ tables_1_1, goodWord w = true → w ∈ gU := fun w h g => List.mem_filter.mpr ⟨List.mem_append_right _ (List.mem_append_left _ h), g⟩
theorem gt_2 : ∀ w ∈ tables_1_2, goodWord w = true → w ∈ gU := fun w h g => List.mem_filter.mpr ⟨List.mem_append_right _ (List.mem_append_right _ (List.mem_append_left _ h)), g⟩
theorem gt_3 : ∀ w ∈ tables_1_3, goodWord w = true → w ∈ gU := fun w h g => List.mem_filter.mpr ⟨List.mem_append_right _ (List.mem_append_right _ (List.mem_append_right _ (List.mem_append_left _ h))), g⟩
theorem gt_4 : ∀ w ∈ tables_1_4, goodWord w = true → w ∈ gU := fun w h g => List.mem_filter.mpr ⟨List.mem_append_right _ (List.mem_append_right _ (List.mem_append_right _ (List.mem_append_right _ (List.mem_append_left _ h)))), g⟩
theorem gt_5 : ∀ w ∈ tables_1_5, goodWord w = true → w ∈ gU := fun w h g => List.mem_filter.mpr ⟨List.mem_append_right _ (List.mem_append_right _ (List.mem_append_right _ (List.mem_append_right _ (List.mem_append_right _ (List.mem_append_left _ h))))), g⟩
theorem gt_6 : ∀ w ∈ tables_1_6, goodWord w = true → w ∈ gU := fun w h g => List.mem_filter.mpr ⟨List.mem_append_right _ (List.mem_append_right _ (List.mem_append_right _ (List.mem_append_right _ (List.mem_append_right _ (List.mem_append_right _ (List.mem_append_left _ h)))))), g⟩
theorem gt_7 : ∀ w ∈ tables_1_7, goodWord w = true → w ∈ gU := fun w h g => List.mem_filter.mpr ⟨List.mem_append_right _ (List.mem_append_right _ (List.mem_append_right _ (List.mem_append_right _ (List.mem_append_right _ (List.mem_append_right _ (List.mem_append_right _ (List.mem_append_left _ h))))))), g⟩
theorem gt_8 : ∀ w ∈ tables_1_8, goodWord w = true → w ∈ gU := fun w h g => List.mem_filter.mpr ⟨List.mem_append_right _ (List.mem_append_right _ (List.mem_append_right _ (List.mem_append_right _ (List.mem_append_right _ (List.mem_append_right _ (List.mem_append_right _ (List.mem_append_right _ (h)))))))), g⟩
theorem gt_s : ∀ w ∈ k2_sels lw_privs, goodWord w = true → w ∈ gU := fun w h g => List.mem_filter.mpr ⟨List.mem_append_left _ h, g⟩
theorem gU_in : ∀ w ∈ gU, w ∈ lw_tbl := fun w h => (List.mem_filter.mp h).1
theorem gU_good : ∀ w ∈ gU, w ∈ gU ∧ ((w.onTables && w.keeps) = true ∨ ∃ ty, w = .arrayClass ty) := fun w h => ⟨h, good_of_word (List.mem_filter.mp h).2⟩
theorem q1_0 : Cond.initialized RL ∈ gU := gt_1 _ (List.mem_of_getElem? (i := 0) rfl) rfl
theorem q1_1 : Cond.initialized RX6 ∈ gU := gt_1 _ (List.mem_of_getElem? (i := 1) rfl) rfl
theorem q1_2 : Cond.initialized RX0 ∈ gU := gt_1 _ (List.mem_of_getElem? (i := 2) rfl) rfl
theorem q1_3 : Cond.initialized RX1 ∈ gU := gt_1 _ (List.mem_of_getElem? (i := 3) rfl) rfl
theorem q1_4 : Cond.initialized RX3 ∈ gU := gt_1 _ (List.mem_of_getElem? (i := 4) rfl) rfl
theorem q1_5 : Cond.initialized RX4 ∈ gU := gt_1 _ (List.mem_of_getElem? (i := 5) rfl) rfl
theorem q1_6 : Cond.initialized RX7 ∈ gU := gt_1 _ (List.mem_of_getElem? (i := 6) rfl) rfl
theorem q1_7 : Cond.initialized "java/lang/Throwable" ∈ gU := gt_1 _ (List.mem_of_getElem? (i := 7) rfl) rfl
theorem q1_8 : Cond.initialized "java/lang/Exception" ∈ gU := gt_1 _ (List.mem_of_getElem? (i := 8) rfl) rfl
theorem q1_9 : Cond.initialized "java/lang/RuntimeException" ∈ gU := gt_1 _ (List.mem_of_getElem? (i := 9) rfl) rfl
theorem q1_10 : Cond.initialized "java/lang/IllegalArgumentException" ∈ gU := gt_1 _ (List.mem_of_getElem? (i := 10) rfl) rfl
theorem q1_11 : Cond.initialized "java/lang/IllegalStateException" ∈ gU := gt_1 _ (List.mem_of_getElem? (i := 11) rfl) rfl
theorem q1_12 : Cond.initialized RJ9 ∈ gU := gt_1 _ (List.mem_of_getElem? (i := 12) rfl) rfl
theorem q1_13 : Cond.initialized RJ10 ∈ gU := gt_1 _ (List.mem_of_getElem? (i := 13) rfl) rfl
theorem q1_14 : Cond.initialized "java/lang/IndexOutOfBoundsException" ∈ gU := gt_1 _ (List.mem_of_getElem? (i := 14) rfl) rfl
theorem q1_15 : Cond.initialized RJ6 ∈ gU := gt_1 _ (List.mem_of_getElem? (i := 15) rfl) rfl
theorem q1_16 : Cond.initialized RX5 ∈ gU := gt_1 _ (List.mem_of_getElem? (i := 16) rfl) rfl
theorem q1_17 : Cond.initialized RX2 ∈ gU := gt_1 _ (List.mem_of_getElem? (i := 17) rfl) rfl
theorem q1_18 : Cond.initialized RJxe99ae ∈ gU := gt_1 _ (List.mem_of_getElem? (i := 18) rfl) rfl
theorem q1_19 : Cond.classLink RL 8 RX6 ∈ gU := gt_1 _ (List.mem_of_getElem? (i := 19) rfl) rfl
theorem q1_20 : Cond.instantiable RX6 5 ∈ gU := gt_1 _ (List.mem_of_getElem? (i := 20) rfl) rfl
theorem q1_21 : Cond.methodLink RL 195 yX6_init ∈ gU := gt_1 _ (List.mem_of_getElem? (i := 21) rfl) rfl
theorem q1_22 : Cond.instanceMethod yX6_init ∈ gU := gt_1 _ (List.mem_of_getElem? (i := 22) rfl) rfl
theorem q1_23 : Cond.code yX6_init cX6_init 1 none ∈ gU := gt_1 _ (List.mem_of_getElem? (i := 23) rfl) rfl
theorem q1_24 : Cond.methodLink RX6 3 objectInit ∈ gU := gt_1 _ (List.mem_of_getElem? (i := 24) rfl) rfl
theorem q1_25 : Cond.instanceMethod objectInit ∈ gU := gt_1 _ (List.mem_of_getElem? (i := 25) rfl) rfl
theorem q1_26 : Cond.code objectInit object_method_1_code 1 none ∈ gU := gt_1 _ (List.mem_of_getElem? (i := 26) rfl) rfl
theorem q1_27 : Cond.classLink RX6 9 RX0 ∈ gU := gt_1 _ (List.mem_of_getElem? (i := 27) rfl) rfl
theorem q1_28 : Cond.instantiable RX0 17 ∈ gU := gt_1 _ (List.mem_of_getElem? (i := 28) rfl) rfl
theorem q1_29 : Cond.methodLink RX6 11 yX0_init ∈ gU := gt_1 _ (List.mem_of_getElem? (i := 29) rfl) rfl
theorem q1_30 : Cond.instanceMethod yX0_init ∈ gU := gt_1 _ (List.mem_of_getElem? (i := 30) rfl) rfl
theorem q1_31 : Cond.code yX0_init cX0_init 2 none ∈ gU := gt_1 _ (List.mem_of_getElem? (i := 31) rfl) rfl
theorem q1_32 : Cond.methodLink RX0 3 objectInit ∈ gU := gt_1 _ (List.mem_of_getElem? (i := 32) rfl) rfl
theorem q1_33 : Cond.fieldLink RX1 24 RX0 "ticketCount" "I" ∈ gU := gt_1 _ (List.mem_of_getElem? (i := 33) rfl) rfl
theorem q1_34 : Cond.fieldLink RX0 51 RX0 "ticketCount" "I" ∈ gU := gt_1 _ (List.mem_of_getElem? (i := 34) rfl) rfl
theorem q1_35 : Cond.fieldLink RX5 72 RX0 "ticketCount" "I" ∈ gU := gt_1 _ (List.mem_of_getElem? (i := 35) rfl) rfl
theorem q1_36 : Cond.fieldLink RX6 221 RX0 "ticketCount" "I" ∈ gU := gt_1 _ (List.mem_of_getElem? (i := 36) rfl) rfl
theorem q1_37 : Cond.fieldLink RX0 55 RX0 "today" "I" ∈ gU := gt_1 _ (List.mem_of_getElem? (i := 37) rfl) rfl
theorem q1_38 : Cond.fieldLink RX5 52 RX0 "today" "I" ∈ gU := gt_1 _ (List.mem_of_getElem? (i := 38) rfl) rfl
theorem q1_39 : Cond.fieldLink RX6 309 RX0 "today" "I" ∈ gU := gt_1 _ (List.mem_of_getElem? (i := 39) rfl) rfl
theorem q1_40 : Cond.fieldLink RX0 58 RX0 "closingCount" "I" ∈ gU := gt_1 _ (List.mem_of_getElem? (i := 40) rfl) rfl
theorem q1_41 : Cond.fieldLink RX6 198 RX0 "closingCount" "I" ∈ gU := gt_1 _ (List.mem_of_getElem? (i := 41) rfl) rfl
theorem q1_42 : Cond.fieldLink RX0 61 RX0 "reopeningCount" "I" ∈ gU := gt_1 _ (List.mem_of_getElem? (i := 42) rfl) rfl
theorem q1_43 : Cond.fieldLink RX6 322 RX0 "reopeningCount" "I" ∈ gU := gt_1 _ (List.mem_of_getElem? (i := 43) rfl) rfl
theorem q1_44 : Cond.fieldLink RX0 9 RX0 "states" "[I" ∈ gU := gt_1 _ (List.mem_of_getElem? (i := 44) rfl) rfl
theorem q1_45 : Cond.fieldLink RX2 67 RX0 "states" "[I" ∈ gU := gt_1 _ (List.mem_of_getElem? (i := 45) rfl) rfl
theorem q1_46 : Cond.fieldLink RX6 105 RX0 "states" "[I" ∈ gU := gt_1 _ (List.mem_of_getElem? (i := 46) rfl) rfl
theorem q1_47 : Cond.fieldLink RX5 75 RX0 "states" "[I" ∈ gU := gt_1 _ (List.mem_of_getElem? (i := 47) rfl) rfl
theorem q1_48 : Cond.fieldLink RX0 15 RX0 "points" "[I" ∈ gU := gt_1 _ (List.mem_of_getElem? (i := 48) rfl) rfl
theorem q1_49 : Cond.fieldLink RX1 53 RX0 "points" "[I" ∈ gU := gt_1 _ (List.mem_of_getElem? (i := 49) rfl) rfl
theorem q1_50 : Cond.fieldLink RX5 81 RX0 "points" "[I" ∈ gU := gt_1 _ (List.mem_of_getElem? (i := 50) rfl) rfl
theorem q1_51 : Cond.fieldLink RX6 224 RX0 "points" "[I" ∈ gU := gt_1 _ (List.mem_of_getElem? (i := 51) rfl) rfl
theorem q1_52 : Cond.fieldLink RX0 18 RX0 "priorities" "[I" ∈ gU := gt_1 _ (List.mem_of_getElem? (i := 52) rfl) rfl
theorem q1_53 : Cond.fieldLink RX1 99 RX0 "priorities" "[I" ∈ gU := gt_1 _ (List.mem_of_getElem? (i := 53) rfl) rfl
theorem q1_54 : Cond.fieldLink RX6 227 RX0 "priorities" "[I" ∈ gU := gt_1 _ (List.mem_of_getElem? (i := 54) rfl) rfl
theorem q1_55 : Cond.fieldLink RX0 21 RX0 "owners" "[I" ∈ gU := gt_1 _ (List.mem_of_getElem? (i := 55) rfl) rfl
theorem q1_56 : Cond.fieldLink RX6 101 RX0 "owners" "[I" ∈ gU := gt_1 _ (List.mem_of_getElem? (i := 56) rfl) rfl
theorem q1_57 : Cond.fieldLink RX0 24 RX0 "milestones" "[I" ∈ gU := gt_1 _ (List.mem_of_getElem? (i := 57) rfl) rfl
theorem q1_58 : Cond.fieldLink RX6 124 RX0 "milestones" "[I" ∈ gU := gt_1 _ (List.mem_of_getElem? (i := 58) rfl) rfl
theorem q1_59 : Cond.fieldLink RX0 27 RX0 "openingDays" "[I" ∈ gU := gt_1 _ (List.mem_of_getElem? (i := 59) rfl) rfl
theorem q1_60 : Cond.fieldLink RX6 230 RX0 "openingDays" "[I" ∈ gU := gt_1 _ (List.mem_of_getElem? (i := 60) rfl) rfl
theorem q1_61 : Cond.fieldLink RX0 30 RX0 "closingDays" "[I" ∈ gU := gt_1 _ (List.mem_of_getElem? (i := 61) rfl) rfl
theorem q1_62 : Cond.fieldLink RX5 78 RX0 "closingDays" "[I" ∈ gU := gt_1 _ (List.mem_of_getElem? (i := 62) rfl) rfl
theorem q1_63 : Cond.fieldLink RX6 233 RX0 "closingDays" "[I" ∈ gU := gt_1 _ (List.mem_of_getElem? (i := 63) rfl) rfl
theorem q1_64 : Cond.fieldLink RX0 33 RX0 "progressDays" "[I" ∈ gU := gt_1 _ (List.mem_of_getElem? (i := 64) rfl) rfl
theorem q1_65 : Cond.fieldLink RX5 84 RX0 "progressDays" "[I" ∈ gU := gt_1 _ (List.mem_of_getElem? (i := 65) rfl) rfl
theorem q1_66 : Cond.fieldLink RX6 236 RX0 "progressDays" "[I" ∈ gU := gt_1 _ (List.mem_of_getElem? (i := 66) rfl) rfl
theorem q1_67 : Cond.fieldLink RX0 36 RX0 "putBackCounts" "[I" ∈ gU := gt_1 _ (List.mem_of_getElem? (i := 67) rfl) rfl
theorem q1_68 : Cond.fieldLink RX6 239 RX0 "putBackCounts" "[I" ∈ gU := gt_1 _ (List.mem_of_getElem? (i := 68) rfl) rfl
theorem q1_69 : Cond.fieldLink RX0 39 RX0 "needSets" "[I" ∈ gU := gt_1 _ (List.mem_of_getElem? (i := 69) rfl) rfl
theorem q1_70 : Cond.fieldLink RX1 30 RX0 "needSets" "[I" ∈ gU := gt_1 _ (List.mem_of_getElem? (i := 70) rfl) rfl
theorem q1_71 : Cond.fieldLink RX6 242 RX0 "needSets" "[I" ∈ gU := gt_1 _ (List.mem_of_getElem? (i := 71) rfl) rfl
theorem q1_72 : Cond.fieldLink RX0 42 RX0 "capacities" "[I" ∈ gU := gt_1 _ (List.mem_of_getElem? (i := 72) rfl) rfl
theorem q1_73 : Cond.fieldLink RX5 36 RX0 "capacities" "[I" ∈ gU := gt_1 _ (List.mem_of_getElem? (i := 73) rfl) rfl
theorem q1_74 : Cond.fieldLink RX6 266 RX0 "capacities" "[I" ∈ gU := gt_1 _ (List.mem_of_getElem? (i := 74) rfl) rfl
theorem q1_75 : Cond.fieldLink RX0 45 RX0 "loads" "[I" ∈ gU := gt_1 _ (List.mem_of_getElem? (i := 75) rfl) rfl
theorem q1_76 : Cond.fieldLink RX5 40 RX0 "loads" "[I" ∈ gU := gt_1 _ (List.mem_of_getElem? (i := 76) rfl) rfl
theorem q1_77 : Cond.fieldLink RX6 112 RX0 "loads" "[I" ∈ gU := gt_1 _ (List.mem_of_getElem? (i := 77) rfl) rfl
theorem q1_78 : Cond.fieldLink RX0 48 RX0 "dates" "[I" ∈ gU := gt_1 _ (List.mem_of_getElem? (i := 78) rfl) rfl
theorem q1_79 : Cond.fieldLink RX5 56 RX0 "dates" "[I" ∈ gU := gt_1 _ (List.mem_of_getElem? (i := 79) rfl) rfl
theorem q1_80 : Cond.fieldLink RX6 281 RX0 "dates" "[I" ∈ gU := gt_1 _ (List.mem_of_getElem? (i := 80) rfl) rfl
theorem q1_81 : Cond.lays RX0 RX0 "ticketCount" "I" ∈ gU := gt_1 _ (List.mem_of_getElem? (i := 81) rfl) rfl
theorem q1_83 : Cond.lays RX0 RX0 "today" "I" ∈ gU := gt_1 _ (List.mem_of_getElem? (i := 83) rfl) rfl
theorem q1_85 : Cond.lays RX0 RX0 "closingCount" "I" ∈ gU := gt_1 _ (List.mem_of_getElem? (i := 85) rfl) rfl
theorem q1_87 : Cond.lays RX0 RX0 "reopeningCount" "I" ∈ gU := gt_1 _ (List.mem_of_getElem? (i := 87) rfl) rfl
theorem q1_89 : Cond.laysFinal RX0 RX0 "states" "[I" ∈ gU := gt_1 _ (List.mem_of_getElem? (i := 89) rfl) rfl
theorem q1_91 : Cond.laysFinal RX0 RX0 "points" "[I" ∈ gU := gt_1 _ (List.mem_of_getElem? (i := 91) rfl) rfl
theorem q1_93 : Cond.laysFinal RX0 RX0 "priorities" "[I" ∈ gU := gt_1 _ (List.mem_of_getElem? (i := 93) rfl) rfl
theorem q1_95 : Cond.laysFinal RX0 RX0 "owners" "[I" ∈ gU := gt_1 _ (List.mem_of_getElem? (i := 95) rfl) rfl
theorem q1_97 : Cond.laysFinal RX0 RX0 "milestones" "[I" ∈ gU := gt_1 _ (List.mem_of_getElem? (i := 97) rfl) rfl
theorem q1_99 : Cond.laysFinal RX0 RX0 "openingDays" "[I" ∈ gU := gt_1 _ (List.mem_of_getElem? (i := 99) rfl) rfl
theorem q1_101 : Cond.laysFinal RX0 RX0 "closingDays" "[I" ∈ gU := gt_1 _ (List.mem_of_getElem? (i := 101) rfl) rfl
theorem q1_103 : Cond.laysFinal RX0 RX0 "progressDays" "[I" ∈ gU := gt_1 _ (List.mem_of_getElem? (i := 103) rfl) rfl
theorem q1_105 : Cond.laysFinal RX0 RX0 "putBackCounts" "[I" ∈ gU := gt_1 _ (List.mem_of_getElem? (i := 105) rfl) rfl
theorem q1_107 : Cond.laysFinal RX0 RX0 "needSets" "[I" ∈ gU := gt_1 _ (List.mem_of_getElem? (i := 107) rfl) rfl
theorem q1_109 : Cond.laysFinal RX0 RX0 "capacities" "[I" ∈ gU := gt_1 _ (List.mem_of_getElem? (i := 109) rfl) rfl
theorem q1_111 : Cond.laysFinal RX0 RX0 "loads" "[I" ∈ gU := gt_1 _ (List.mem_of_getElem? (i := 111) rfl) rfl
theorem q1_113 : Cond.laysFinal RX0 RX0 "dates" "[I" ∈ gU := gt_1 _ (List.mem_of_getElem? (i := 113) rfl) rfl
theorem q1_116 : Cond.arrayClass .int ∈ gU := gt_1 _ (List.mem_of_getElem? (i := 116) rfl) rfl
theorem q1_117 : Cond.classLink RX6 19 RX1 ∈ gU := gt_1 _ (List.mem_of_getElem? (i := 117) rfl) rfl
theorem q1_118 : Cond.instantiable RX1 4 ∈ gU := gt_1 _ (List.mem_of_getElem? (i := 118) rfl) rfl
theorem q1_120 : Cond.instanceMethod yX1_init ∈ gU := gt_1 _ (List.mem_of_getElem? (i := 120) rfl) rfl
theorem q1_121 : Cond.code yX1_init cX1_init 1 none ∈ gU := gt_1 _ (List.mem_of_getElem? (i := 121) rfl) rfl
theorem q1_122 : Cond.methodLink RX1 3 objectInit ∈ gU := gt_1 _ (List.mem_of_getElem? (i := 122) rfl) rfl
theorem q1_123 : Cond.fieldLink RX1 9 RX1 "table" "[I" ∈ gU := gt_1 _ (List.mem_of_getElem? (i := 123) rfl) rfl
theorem q1_124 : Cond.fieldLink RX1 15 RX1 "triedBests" "[I" ∈ gU := gt_1 _ (List.mem_of_getElem? (i := 124) rfl) rfl
theorem q1_125 : Cond.fieldLink RX1 18 RX1 "orderedBests" "[I" ∈ gU := gt_1 _ (List.mem_of_getElem? (i := 125) rfl) rfl
theorem q1_126 : Cond.fieldLink RX1 21 RX1 "closingOrder" "[I" ∈ gU := gt_1 _ (List.mem_of_getElem? (i := 126) rfl) rfl
theorem q1_127 : Cond.fieldLink RX6 306 RX1 "closingOrder" "[I" ∈ gU := gt_1 _ (List.mem_of_getElem? (i := 127) rfl) rfl
theorem q1_128 : Cond.laysFinal RX1 RX1 "table" "[I" ∈ gU := gt_1 _ (List.mem_of_getElem? (i := 128) rfl) rfl
theorem q1_130 : Cond.laysFinal RX1 RX1 "triedBests" "[I" ∈ gU := gt_1 _ (List.mem_of_getElem? (i := 130) rfl) rfl
theorem q1_132 : Cond.laysFinal RX1 RX1 "orderedBests" "[I" ∈ gU := gt_1 _ (List.mem_of_getElem? (i := 132) rfl) rfl
theorem q1_134 : Cond.laysFinal RX1 RX1 "closingOrder" "[I" ∈ gU := gt_1 _ (List.mem_of_getElem? (i := 134) rfl) rfl
theorem q1_137 : Cond.classLink RX6 26 RX3 ∈ gU := gt_1 _ (List.mem_of_getElem? (i := 137) rfl) rfl
theorem q1_138 : Cond.instantiable RX3 5 ∈ gU := gt_1 _ (List.mem_of_getElem? (i := 138) rfl) rfl
theorem q1_139 : Cond.methodLink RX6 28 yX3_init ∈ gU := gt_1 _ (List.mem_of_getElem? (i := 139) rfl) rfl
theorem q1_140 : Cond.instanceMethod yX3_init ∈ gU := gt_1 _ (List.mem_of_getElem? (i := 140) rfl) rfl
theorem q1_141 : Cond.code yX3_init cX3_init 2 none ∈ gU := gt_1 _ (List.mem_of_getElem? (i := 141) rfl) rfl
theorem q1_142 : Cond.methodLink RX3 3 objectInit ∈ gU := gt_1 _ (List.mem_of_getElem? (i := 142) rfl) rfl
theorem q1_143 : Cond.classLink RX3 9 RX0 ∈ gU := gt_1 _ (List.mem_of_getElem? (i := 143) rfl) rfl
theorem q1_145 : Cond.methodLink RX3 24 yX0_init ∈ gU := gt_1 _ (List.mem_of_getElem? (i := 145) rfl) rfl
theorem q1_146 : Cond.fieldLink RX3 11 RX3 "saved" "[LTicketChains$Board;" ∈ gU := gt_1 _ (List.mem_of_getElem? (i := 146) rfl) rfl
theorem q1_147 : Cond.fieldLink RX3 29 RX3 "oldest" "I" ∈ gU := gt_1 _ (List.mem_of_getElem? (i := 147) rfl) rfl
theorem q1_148 : Cond.fieldLink RX3 25 RX3 "count" "I" ∈ gU := gt_1 _ (List.mem_of_getElem? (i := 148) rfl) rfl
theorem q1_149 : Cond.fieldLink RX3 17 RX3 "slots" "[LTicketChains$Board;" ∈ gU := gt_1 _ (List.mem_of_getElem? (i := 149) rfl) rfl
theorem q1_150 : Cond.fieldLink RX3 20 RX3 "kept" "[Z" ∈ gU := gt_1 _ (List.mem_of_getElem? (i := 150) rfl) rfl
theorem q1_151 : Cond.laysFinal RX3 RX3 "saved" "[LTicketChains$Board;" ∈ gU := gt_1 _ (List.mem_of_getElem? (i := 151) rfl) rfl
theorem q1_153 : Cond.lays RX3 RX3 "oldest" "I" ∈ gU := gt_1 _ (List.mem_of_getElem? (i := 153) rfl) rfl
theorem q1_155 : Cond.lays RX3 RX3 "count" "I" ∈ gU := gt_1 _ (List.mem_of_getElem? (i := 155) rfl) rfl
theorem q1_157 : Cond.laysFinal RX3 RX3 "slots" "[LTicketChains$Board;" ∈ gU := gt_1 _ (List.mem_of_getElem? (i := 157) rfl) rfl
theorem q1_159 : Cond.laysFinal RX3 RX3 "kept" "[Z" ∈ gU := gt_1 _ (List.mem_of_getElem? (i := 159) rfl) rfl
theorem q1_162 : Cond.arrayClass .boolean ∈ gU := gt_1 _ (List.mem_of_getElem? (i := 162) rfl) rfl
theorem q1_163 : Cond.classLink RX6 33 RX4 ∈ gU := gt_1 _ (List.mem_of_getElem? (i := 163) rfl) rfl
theorem q1_164 : Cond.instantiable RX4 7 ∈ gU := gt_1 _ (List.mem_of_getElem? (i := 164) rfl) rfl
theorem q1_166 : Cond.instanceMethod yX4_init ∈ gU := gt_1 _ (List.mem_of_getElem? (i := 166) rfl) rfl
theorem q1_167 : Cond.code yX4_init cX4_init 1 none ∈ gU := gt_1 _ (List.mem_of_getElem? (i := 167) rfl) rfl
theorem q1_168 : Cond.methodLink RX4 3 objectInit ∈ gU := gt_1 _ (List.mem_of_getElem? (i := 168) rfl) rfl
theorem q1_169 : Cond.fieldLink RX4 9 RX4 "signs" "[C" ∈ gU := gt_1 _ (List.mem_of_getElem? (i := 169) rfl) rfl
theorem q1_170 : Cond.fieldLink RX4 25 RX4 "length" "I" ∈ gU := gt_1 _ (List.mem_of_getElem? (i := 170) rfl) rfl
theorem q1_171 : Cond.fieldLink RX4 37 RX4 "at" "I" ∈ gU := gt_1 _ (List.mem_of_getElem? (i := 171) rfl) rfl
theorem q1_172 : Cond.fieldLink RX4 15 RX4 "kinds" "[C" ∈ gU := gt_1 _ (List.mem_of_getElem? (i := 172) rfl) rfl
theorem q1_173 : Cond.fieldLink RX4 18 RX4 "firsts" "[I" ∈ gU := gt_1 _ (List.mem_of_getElem? (i := 173) rfl) rfl
theorem q1_174 : Cond.fieldLink RX4 22 RX4 "seconds" "[I" ∈ gU := gt_1 _ (List.mem_of_getElem? (i := 174) rfl) rfl
theorem q1_175 : Cond.fieldLink RX4 40 RX4 "orderCount" "I" ∈ gU := gt_1 _ (List.mem_of_getElem? (i := 175) rfl) rfl
theorem q1_176 : Cond.laysFinal RX4 RX4 "signs" "[C" ∈ gU := gt_1 _ (List.mem_of_getElem? (i := 176) rfl) rfl
theorem q1_178 : Cond.lays RX4 RX4 "length" "I" ∈ gU := gt_1 _ (List.mem_of_getElem? (i := 178) rfl) rfl
theorem q1_180 : Cond.lays RX4 RX4 "at" "I" ∈ gU := gt_1 _ (List.mem_of_getElem? (i := 180) rfl) rfl
theorem q1_182 : Cond.laysFinal RX4 RX4 "kinds" "[C" ∈ gU := gt_1 _ (List.mem_of_getElem? (i := 182) rfl) rfl
theorem q1_184 : Cond.laysFinal RX4 RX4 "firsts" "[I" ∈ gU := gt_1 _ (List.mem_of_getElem? (i := 184) rfl) rfl
theorem q1_186 : Cond.laysFinal RX4 RX4 "seconds" "[I" ∈ gU := gt_1 _ (List.mem_of_getElem? (i := 186) rfl) rfl
theorem q1_188 : Cond.lays RX4 RX4 "orderCount" "I" ∈ gU := gt_1 _ (List.mem_of_getElem? (i := 188) rfl) rfl
theorem q1_191 : Cond.arrayClass .char ∈ gU := gt_1 _ (List.mem_of_getElem? (i := 191) rfl) rfl
theorem q1_192 : Cond.fieldLink RX6 12 RX6 "board" "LTicketChains$Board;" ∈ gU := gt_1 _ (List.mem_of_getElem? (i := 192) rfl) rfl
theorem q1_193 : Cond.fieldLink RX6 16 RX6 "trial" "LTicketChains$Board;" ∈ gU := gt_1 _ (List.mem_of_getElem? (i := 193) rfl) rfl
theorem q1_194 : Cond.fieldLink RX6 22 RX6 "chains" "LTicketChains$Chains;" ∈ gU := gt_1 _ (List.mem_of_getElem? (i := 194) rfl) rfl
theorem q1_195 : Cond.fieldLink RX6 29 RX6 "history" "LTicketChains$History;" ∈ gU := gt_1 _ (List.mem_of_getElem? (i := 195) rfl) rfl
theorem q1_196 : Cond.fieldLink RX6 36 RX6 "text" "LTicketChains$OrderText;" ∈ gU := gt_1 _ (List.mem_of_getElem? (i := 196) rfl) rfl
theorem q1_197 : Cond.laysFinal RX6 RX6 "board" "LTicketChains$Board;" ∈ gU := gt_1 _ (List.mem_of_getElem? (i := 197) rfl) rfl
theorem q1_199 : Cond.laysFinal RX6 RX6 "trial" "LTicketChains$Board;" ∈ gU := gt_1 _ (List.mem_of_getElem? (i := 199) rfl) rfl
theorem q1_201 : Cond.laysFinal RX6 RX6 "chains" "LTicketChains$Chains;" ∈ gU := gt_1 _ (List.mem_of_getElem? (i := 201) rfl) rfl
theorem q1_203 : Cond.laysFinal RX6 RX6 "history" "LTicketChains$History;" ∈ gU := gt_1 _ (List.mem_of_getElem? (i := 203) rfl) rfl
theorem q1_205 : Cond.laysFinal RX6 RX6 "text" "LTicketChains$OrderText;" ∈ gU := gt_1 _ (List.mem_of_getElem? (i := 205) rfl) rfl
theorem q1_208 : Cond.methodLink RL 264 yX6_clearBuffer ∈ gU := gt_1 _ (List.mem_of_getElem? (i := 208) rfl) rfl
theorem q1_209 : Cond.instanceMethod yX6_clearBuffer ∈ gU := gt_1 _ (List.mem_of_getElem? (i := 209) rfl) rfl
theorem q1_210 : Cond.selects RX6 yX6_clearBuffer yX6_clearBuffer ∈ gU := gt_1 _ (List.mem_of_getElem? (i := 210) rfl) rfl
theorem q1_211 : Cond.code yX6_clearBuffer cX6_clearBuffer 1 (some .int) ∈ gU := gt_1 _ (List.mem_of_getElem? (i := 211) rfl) rfl
theorem q1_212 : Cond.methodLink RX6 182 yX4_clear ∈ gU := gt_1 _ (List.mem_of_getElem? (i := 212) rfl) rfl
theorem q1_213 : Cond.instanceMethod yX4_clear ∈ gU := gt_1 _ (List.mem_of_getElem? (i := 213) rfl) rfl
theorem q1_214 : Cond.selects RX4 yX4_clear yX4_clear ∈ gU := gt_1 _ (List.mem_of_getElem? (i := 214) rfl) rfl
theorem q1_215 : Cond.code yX4_clear cX4_clear 2 (some .int) ∈ gU := gt_1 _ (List.mem_of_getElem? (i := 215) rfl) rfl
theorem q1_216 : Cond.methodLink RL 268 yX6_firstError ∈ gU := gt_1 _ (List.mem_of_getElem? (i := 216) rfl) rfl
theorem q1_217 : Cond.instanceMethod yX6_firstError ∈ gU := gt_1 _ (List.mem_of_getElem? (i := 217) rfl) rfl
theorem q1_218 : Cond.selects RX6 yX6_firstError yX6_firstError ∈ gU := gt_1 _ (List.mem_of_getElem? (i := 218) rfl) rfl
theorem q1_219 : Cond.code yX6_firstError cX6_firstError 1 (some .int) ∈ gU := gt_1 _ (List.mem_of_getElem? (i := 219) rfl) rfl
theorem q1_220 : Cond.methodLink RX6 185 yX4_errorPlace ∈ gU := gt_1 _ (List.mem_of_getElem? (i := 220) rfl) rfl
theorem q1_221 : Cond.instanceMethod yX4_errorPlace ∈ gU := gt_1 _ (List.mem_of_getElem? (i := 221) rfl) rfl
theorem q1_222 : Cond.selects RX4 yX4_errorPlace yX4_errorPlace ∈ gU := gt_1 _ (List.mem_of_getElem? (i := 222) rfl) rfl
theorem q1_223 : Cond.code yX4_errorPlace cX4_errorPlace 1 (some .int) ∈ gU := gt_1 _ (List.mem_of_getElem? (i := 223) rfl) rfl
theorem q1_224 : Cond.methodLink RX4 33 yX4_tellsOrders ∈ gU := gt_1 _ (List.mem_of_getElem? (i := 224) rfl) rfl
theorem q1_225 : Cond.instanceMethod yX4_tellsOrders ∈ gU := gt_1 _ (List.mem_of_getElem? (i := 225) rfl) rfl
theorem q1_226 : Cond.selects RX4 yX4_tellsOrders yX4_tellsOrders ∈ gU := gt_1 _ (List.mem_of_getElem? (i := 226) rfl) rfl
theorem q1_227 : Cond.code yX4_tellsOrders cX4_tellsOrders 3 (some .boolean) ∈ gU := gt_1 _ (List.mem_of_getElem? (i := 227) rfl) rfl
theorem q1_228 : Cond.methodLink RX4 43 yX4_readOrder ∈ gU := gt_1 _ (List.mem_of_getElem? (i := 228) rfl) rfl
theorem q1_230 : Cond.instanceMethod yX4_readOrder ∈ gU := gt_1 _ (List.mem_of_getElem? (i := 230) rfl) rfl
theorem q1_231 : Cond.code yX4_readOrder cX4_readOrder 2 (some .boolean) ∈ gU := gt_1 _ (List.mem_of_getElem? (i := 231) rfl) rfl
theorem q1_232 : Cond.methodLink RX4 50 yX4_readOpening ∈ gU := gt_1 _ (List.mem_of_getElem? (i := 232) rfl) rfl
theorem q1_234 : Cond.instanceMethod yX4_readOpening ∈ gU := gt_1 _ (List.mem_of_getElem? (i := 234) rfl) rfl
theorem q1_235 : Cond.code yX4_readOpening cX4_readOpening 4 (some .boolean) ∈ gU := gt_1 _ (List.mem_of_getElem? (i := 235) rfl) rfl
theorem q1_236 : Cond.methodLink RX4 61 yX4_readNumber ∈ gU := gt_1 _ (List.mem_of_getElem? (i := 236) rfl) rfl
theorem q1_238 : Cond.instanceMethod yX4_readNumber ∈ gU := gt_1 _ (List.mem_of_getElem? (i := 238) rfl) rfl
theorem q1_239 : Cond.code yX4_readNumber cX4_readNumber 5 (some .int) ∈ gU := gt_1 _ (List.mem_of_getElem? (i := 239) rfl) rfl
theorem q2_0 : Cond.methodLink RX4 69 yX4_digitHere ∈ gU := gt_2 _ (List.mem_of_getElem? (i := 0) rfl) rfl
theorem q2_2 : Cond.instanceMethod yX4_digitHere ∈ gU := gt_2 _ (List.mem_of_getElem? (i := 2) rfl) rfl
theorem q2_3 : Cond.code yX4_digitHere cX4_digitHere 1 (some .int) ∈ gU := gt_2 _ (List.mem_of_getElem? (i := 3) rfl) rfl
theorem q2_4 : Cond.methodLink RX4 46 yX4_readSign ∈ gU := gt_2 _ (List.mem_of_getElem? (i := 4) rfl) rfl
theorem q2_6 : Cond.instanceMethod yX4_readSign ∈ gU := gt_2 _ (List.mem_of_getElem? (i := 6) rfl) rfl
theorem q2_7 : Cond.code yX4_readSign cX4_readSign 2 (some .boolean) ∈ gU := gt_2 _ (List.mem_of_getElem? (i := 7) rfl) rfl
theorem q2_8 : Cond.methodLink RX4 65 yX4_noteOrder ∈ gU := gt_2 _ (List.mem_of_getElem? (i := 8) rfl) rfl
theorem q2_10 : Cond.instanceMethod yX4_noteOrder ∈ gU := gt_2 _ (List.mem_of_getElem? (i := 10) rfl) rfl
theorem q2_11 : Cond.code yX4_noteOrder cX4_noteOrder 4 (some .boolean) ∈ gU := gt_2 _ (List.mem_of_getElem? (i := 11) rfl) rfl
theorem q2_12 : Cond.methodLink RX4 53 yX4_readPair ∈ gU := gt_2 _ (List.mem_of_getElem? (i := 12) rfl) rfl
theorem q2_14 : Cond.instanceMethod yX4_readPair ∈ gU := gt_2 _ (List.mem_of_getElem? (i := 14) rfl) rfl
theorem q2_15 : Cond.code yX4_readPair cX4_readPair 6 (some .boolean) ∈ gU := gt_2 _ (List.mem_of_getElem? (i := 15) rfl) rfl
theorem q2_16 : Cond.methodLink RX4 57 yX4_readSingle ∈ gU := gt_2 _ (List.mem_of_getElem? (i := 16) rfl) rfl
theorem q2_18 : Cond.instanceMethod yX4_readSingle ∈ gU := gt_2 _ (List.mem_of_getElem? (i := 18) rfl) rfl
theorem q2_19 : Cond.code yX4_readSingle cX4_readSingle 5 (some .boolean) ∈ gU := gt_2 _ (List.mem_of_getElem? (i := 19) rfl) rfl
theorem q2_20 : Cond.methodLink RL 289 yX6_savedStates ∈ gU := gt_2 _ (List.mem_of_getElem? (i := 20) rfl) rfl
theorem q2_21 : Cond.instanceMethod yX6_savedStates ∈ gU := gt_2 _ (List.mem_of_getElem? (i := 21) rfl) rfl
theorem q2_22 : Cond.selects RX6 yX6_savedStates yX6_savedStates ∈ gU := gt_2 _ (List.mem_of_getElem? (i := 22) rfl) rfl
theorem q2_23 : Cond.code yX6_savedStates cX6_savedStates 1 (some .int) ∈ gU := gt_2 _ (List.mem_of_getElem? (i := 23) rfl) rfl
theorem q2_24 : Cond.methodLink RX6 215 yX3_savedCount ∈ gU := gt_2 _ (List.mem_of_getElem? (i := 24) rfl) rfl
theorem q2_25 : Cond.instanceMethod yX3_savedCount ∈ gU := gt_2 _ (List.mem_of_getElem? (i := 25) rfl) rfl
theorem q2_26 : Cond.selects RX3 yX3_savedCount yX3_savedCount ∈ gU := gt_2 _ (List.mem_of_getElem? (i := 26) rfl) rfl
theorem q2_27 : Cond.code yX3_savedCount cX3_savedCount 1 (some .int) ∈ gU := gt_2 _ (List.mem_of_getElem? (i := 27) rfl) rfl
theorem q2_28 : Cond.methodLink RL 293 yX6_tickets ∈ gU := gt_2 _ (List.mem_of_getElem? (i := 28) rfl) rfl
theorem q2_29 : Cond.instanceMethod yX6_tickets ∈ gU := gt_2 _ (List.mem_of_getElem? (i := 29) rfl) rfl
theorem q2_30 : Cond.selects RX6 yX6_tickets yX6_tickets ∈ gU := gt_2 _ (List.mem_of_getElem? (i := 30) rfl) rfl
theorem q2_31 : Cond.code yX6_tickets cX6_tickets 1 (some .int) ∈ gU := gt_2 _ (List.mem_of_getElem? (i := 31) rfl) rfl
theorem q2_32 : Cond.methodLink RL 354 yX6_criticalByTrying ∈ gU := gt_2 _ (List.mem_of_getElem? (i := 32) rfl) rfl
theorem q2_33 : Cond.instanceMethod yX6_criticalByTrying ∈ gU := gt_2 _ (List.mem_of_getElem? (i := 33) rfl) rfl
theorem q2_34 : Cond.selects RX6 yX6_criticalByTrying yX6_criticalByTrying ∈ gU := gt_2 _ (List.mem_of_getElem? (i := 34) rfl) rfl
theorem q2_35 : Cond.code yX6_criticalByTrying cX6_criticalByTrying 1 (some .int) ∈ gU := gt_2 _ (List.mem_of_getElem? (i := 35) rfl) rfl
theorem q2_36 : Cond.methodLink RX6 260 yX1_mostPointsByTrying ∈ gU := gt_2 _ (List.mem_of_getElem? (i := 36) rfl) rfl
theorem q2_37 : Cond.instanceMethod yX1_mostPointsByTrying ∈ gU := gt_2 _ (List.mem_of_getElem? (i := 37) rfl) rfl
theorem q2_38 : Cond.selects RX1 yX1_mostPointsByTrying yX1_mostPointsByTrying ∈ gU := gt_2 _ (List.mem_of_getElem? (i := 38) rfl) rfl
theorem q2_39 : Cond.code yX1_mostPointsByTrying cX1_mostPointsByTrying 4 (some .int) ∈ gU := gt_2 _ (List.mem_of_getElem? (i := 39) rfl) rfl
theorem q2_40 : Cond.methodLink RX1 56 yX1_tryFrom ∈ gU := gt_2 _ (List.mem_of_getElem? (i := 40) rfl) rfl
theorem q2_41 : Cond.static yX1_tryFrom ∈ gU := gt_2 _ (List.mem_of_getElem? (i := 41) rfl) rfl
theorem q2_42 : Cond.code yX1_tryFrom cX1_tryFrom 6 (some .int) ∈ gU := gt_2 _ (List.mem_of_getElem? (i := 42) rfl) rfl
theorem q2_43 : Cond.methodLink RX1 66 yX0_needsDirectly ∈ gU := gt_2 _ (List.mem_of_getElem? (i := 43) rfl) rfl
theorem q2_44 : Cond.instanceMethod yX0_needsDirectly ∈ gU := gt_2 _ (List.mem_of_getElem? (i := 44) rfl) rfl
theorem q2_45 : Cond.selects RX0 yX0_needsDirectly yX0_needsDirectly ∈ gU := gt_2 _ (List.mem_of_getElem? (i := 45) rfl) rfl
theorem q2_46 : Cond.code yX0_needsDirectly cX0_needsDirectly 3 (some .boolean) ∈ gU := gt_2 _ (List.mem_of_getElem? (i := 46) rfl) rfl
theorem q2_48 : Cond.static yX6_isIn ∈ gU := gt_2 _ (List.mem_of_getElem? (i := 48) rfl) rfl
theorem q2_49 : Cond.code yX6_isIn cX6_isIn 2 (some .boolean) ∈ gU := gt_2 _ (List.mem_of_getElem? (i := 49) rfl) rfl
theorem q2_50 : Cond.methodLink RX1 60 yJ9_max_7cf53 ∈ gU := gt_2 _ (List.mem_of_getElem? (i := 50) rfl) rfl
theorem q2_51 : Cond.static yJ9_max_7cf53 ∈ gU := gt_2 _ (List.mem_of_getElem? (i := 51) rfl) rfl
theorem q2_52 : Cond.code yJ9_max_7cf53 cJ9_max_7cf53 2 (some .int) ∈ gU := gt_2 _ (List.mem_of_getElem? (i := 52) rfl) rfl
theorem q2_53 : Cond.methodLink RX1 69 yX1_countedPoints ∈ gU := gt_2 _ (List.mem_of_getElem? (i := 53) rfl) rfl
theorem q2_54 : Cond.static yX1_countedPoints ∈ gU := gt_2 _ (List.mem_of_getElem? (i := 54) rfl) rfl
theorem q2_55 : Cond.code yX1_countedPoints cX1_countedPoints 2 (some .int) ∈ gU := gt_2 _ (List.mem_of_getElem? (i := 55) rfl) rfl
theorem q2_56 : Cond.methodLink RX1 49 yX0_isUnfinished ∈ gU := gt_2 _ (List.mem_of_getElem? (i := 56) rfl) rfl
theorem q2_57 : Cond.instanceMethod yX0_isUnfinished ∈ gU := gt_2 _ (List.mem_of_getElem? (i := 57) rfl) rfl
theorem q2_58 : Cond.selects RX0 yX0_isUnfinished yX0_isUnfinished ∈ gU := gt_2 _ (List.mem_of_getElem? (i := 58) rfl) rfl
theorem q2_59 : Cond.code yX0_isUnfinished cX0_isUnfinished 2 (some .boolean) ∈ gU := gt_2 _ (List.mem_of_getElem? (i := 59) rfl) rfl
theorem q2_60 : Cond.methodLink RL 358 yX6_criticalByOrder ∈ gU := gt_2 _ (List.mem_of_getElem? (i := 60) rfl) rfl
theorem q2_61 : Cond.instanceMethod yX6_criticalByOrder ∈ gU := gt_2 _ (List.mem_of_getElem? (i := 61) rfl) rfl
theorem q2_62 : Cond.selects RX6 yX6_criticalByOrder yX6_criticalByOrder ∈ gU := gt_2 _ (List.mem_of_getElem? (i := 62) rfl) rfl
theorem q2_63 : Cond.code yX6_criticalByOrder cX6_criticalByOrder 1 (some .int) ∈ gU := gt_2 _ (List.mem_of_getElem? (i := 63) rfl) rfl
theorem q2_64 : Cond.methodLink RX6 263 yX1_mostPointsByOrder ∈ gU := gt_2 _ (List.mem_of_getElem? (i := 64) rfl) rfl
theorem q2_65 : Cond.instanceMethod yX1_mostPointsByOrder ∈ gU := gt_2 _ (List.mem_of_getElem? (i := 65) rfl) rfl
theorem q2_66 : Cond.selects RX1 yX1_mostPointsByOrder yX1_mostPointsByOrder ∈ gU := gt_2 _ (List.mem_of_getElem? (i := 66) rfl) rfl
theorem q2_67 : Cond.code yX1_mostPointsByOrder cX1_mostPointsByOrder 6 (some .int) ∈ gU := gt_2 _ (List.mem_of_getElem? (i := 67) rfl) rfl
theorem q2_68 : Cond.methodLink RX1 73 yX1_placeable ∈ gU := gt_2 _ (List.mem_of_getElem? (i := 68) rfl) rfl
theorem q2_69 : Cond.static yX1_placeable ∈ gU := gt_2 _ (List.mem_of_getElem? (i := 69) rfl) rfl
theorem q2_70 : Cond.code yX1_placeable cX1_placeable 3 (some .int) ∈ gU := gt_2 _ (List.mem_of_getElem? (i := 70) rfl) rfl
theorem q2_72 : Cond.methodLink RX1 76 yX1_bestNeeded ∈ gU := gt_2 _ (List.mem_of_getElem? (i := 72) rfl) rfl
theorem q2_74 : Cond.instanceMethod yX1_bestNeeded ∈ gU := gt_2 _ (List.mem_of_getElem? (i := 74) rfl) rfl
theorem q2_75 : Cond.code yX1_bestNeeded cX1_bestNeeded 5 (some .int) ∈ gU := gt_2 _ (List.mem_of_getElem? (i := 75) rfl) rfl
theorem q2_77 : Cond.static yX6_setOf ∈ gU := gt_2 _ (List.mem_of_getElem? (i := 77) rfl) rfl
theorem q2_78 : Cond.code yX6_setOf cX6_setOf 1 (some .int) ∈ gU := gt_2 _ (List.mem_of_getElem? (i := 78) rfl) rfl
theorem q2_79 : Cond.methodLink RL 377 yX6_freestOwner ∈ gU := gt_2 _ (List.mem_of_getElem? (i := 79) rfl) rfl
theorem q2_80 : Cond.instanceMethod yX6_freestOwner ∈ gU := gt_2 _ (List.mem_of_getElem? (i := 80) rfl) rfl
theorem q2_81 : Cond.selects RX6 yX6_freestOwner yX6_freestOwner ∈ gU := gt_2 _ (List.mem_of_getElem? (i := 81) rfl) rfl
theorem q2_82 : Cond.code yX6_freestOwner cX6_freestOwner 1 (some .int) ∈ gU := gt_2 _ (List.mem_of_getElem? (i := 82) rfl) rfl
theorem q2_83 : Cond.methodLink RX6 278 yX5_ownerWithMostLeft ∈ gU := gt_2 _ (List.mem_of_getElem? (i := 83) rfl) rfl
theorem q2_84 : Cond.static yX5_ownerWithMostLeft ∈ gU := gt_2 _ (List.mem_of_getElem? (i := 84) rfl) rfl
theorem q2_85 : Cond.code yX5_ownerWithMostLeft cX5_ownerWithMostLeft 3 (some .int) ∈ gU := gt_2 _ (List.mem_of_getElem? (i := 85) rfl) rfl
theorem q2_86 : Cond.methodLink RX5 30 yX5_capacityLeft ∈ gU := gt_2 _ (List.mem_of_getElem? (i := 86) rfl) rfl
theorem q2_87 : Cond.static yX5_capacityLeft ∈ gU := gt_2 _ (List.mem_of_getElem? (i := 87) rfl) rfl
theorem q2_88 : Cond.code yX5_capacityLeft cX5_capacityLeft 2 (some .int) ∈ gU := gt_2 _ (List.mem_of_getElem? (i := 88) rfl) rfl
theorem q2_89 : Cond.methodLink RL 399 yX6_lateMilestones ∈ gU := gt_2 _ (List.mem_of_getElem? (i := 89) rfl) rfl
theorem q2_90 : Cond.instanceMethod yX6_lateMilestones ∈ gU := gt_2 _ (List.mem_of_getElem? (i := 90) rfl) rfl
theorem q2_91 : Cond.selects RX6 yX6_lateMilestones yX6_lateMilestones ∈ gU := gt_2 _ (List.mem_of_getElem? (i := 91) rfl) rfl
theorem q2_92 : Cond.code yX6_lateMilestones cX6_lateMilestones 1 (some .int) ∈ gU := gt_2 _ (List.mem_of_getElem? (i := 92) rfl) rfl
theorem q2_93 : Cond.methodLink RX6 297 yX5_overdueMilestones ∈ gU := gt_2 _ (List.mem_of_getElem? (i := 93) rfl) rfl
theorem q2_94 : Cond.static yX5_overdueMilestones ∈ gU := gt_2 _ (List.mem_of_getElem? (i := 94) rfl) rfl
theorem q2_95 : Cond.code yX5_overdueMilestones cX5_overdueMilestones 3 (some .int) ∈ gU := gt_2 _ (List.mem_of_getElem? (i := 95) rfl) rfl
theorem q2_96 : Cond.methodLink RX5 59 yX5_isOverdue ∈ gU := gt_2 _ (List.mem_of_getElem? (i := 96) rfl) rfl
theorem q2_97 : Cond.static yX5_isOverdue ∈ gU := gt_2 _ (List.mem_of_getElem? (i := 97) rfl) rfl
theorem q2_98 : Cond.code yX5_isOverdue cX5_isOverdue 2 (some .boolean) ∈ gU := gt_2 _ (List.mem_of_getElem? (i := 98) rfl) rfl
theorem q2_99 : Cond.methodLink RX5 49 yX5_leftFor ∈ gU := gt_2 _ (List.mem_of_getElem? (i := 99) rfl) rfl
theorem q2_100 : Cond.static yX5_leftFor ∈ gU := gt_2 _ (List.mem_of_getElem? (i := 100) rfl) rfl
theorem q2_101 : Cond.code yX5_leftFor cX5_leftFor 2 (some .int) ∈ gU := gt_2 _ (List.mem_of_getElem? (i := 101) rfl) rfl
theorem q2_102 : Cond.methodLink RX5 43 yX0_plannedFor ∈ gU := gt_2 _ (List.mem_of_getElem? (i := 102) rfl) rfl
theorem q2_103 : Cond.instanceMethod yX0_plannedFor ∈ gU := gt_2 _ (List.mem_of_getElem? (i := 103) rfl) rfl
theorem q2_104 : Cond.selects RX0 yX0_plannedFor yX0_plannedFor ∈ gU := gt_2 _ (List.mem_of_getElem? (i := 104) rfl) rfl
theorem q2_105 : Cond.code yX0_plannedFor cX0_plannedFor 2 (some .int) ∈ gU := gt_2 _ (List.mem_of_getElem? (i := 105) rfl) rfl
theorem q2_106 : Cond.methodLink RX0 84 yX0_setWhere ∈ gU := gt_2 _ (List.mem_of_getElem? (i := 106) rfl) rfl
theorem q2_108 : Cond.instanceMethod yX0_setWhere ∈ gU := gt_2 _ (List.mem_of_getElem? (i := 108) rfl) rfl
theorem q2_109 : Cond.code yX0_setWhere cX0_setWhere 5 (some .int) ∈ gU := gt_2 _ (List.mem_of_getElem? (i := 109) rfl) rfl
theorem q2_111 : Cond.methodLink RX5 15 yX0_unfinishedSet ∈ gU := gt_2 _ (List.mem_of_getElem? (i := 111) rfl) rfl
theorem q2_112 : Cond.instanceMethod yX0_unfinishedSet ∈ gU := gt_2 _ (List.mem_of_getElem? (i := 112) rfl) rfl
theorem q2_113 : Cond.selects RX0 yX0_unfinishedSet yX0_unfinishedSet ∈ gU := gt_2 _ (List.mem_of_getElem? (i := 113) rfl) rfl
theorem q2_114 : Cond.code yX0_unfinishedSet cX0_unfinishedSet 3 (some .int) ∈ gU := gt_2 _ (List.mem_of_getElem? (i := 114) rfl) rfl
theorem q2_115 : Cond.methodLink RX0 88 yX0_isUnfinished ∈ gU := gt_2 _ (List.mem_of_getElem? (i := 115) rfl) rfl
theorem q2_116 : Cond.methodLink RX5 19 yX0_pointsOfSet ∈ gU := gt_2 _ (List.mem_of_getElem? (i := 116) rfl) rfl
theorem q2_117 : Cond.instanceMethod yX0_pointsOfSet ∈ gU := gt_2 _ (List.mem_of_getElem? (i := 117) rfl) rfl
theorem q2_118 : Cond.selects RX0 yX0_pointsOfSet yX0_pointsOfSet ∈ gU := gt_2 _ (List.mem_of_getElem? (i := 118) rfl) rfl
theorem q2_119 : Cond.code yX0_pointsOfSet cX0_pointsOfSet 4 (some .int) ∈ gU := gt_2 _ (List.mem_of_getElem? (i := 119) rfl) rfl
theorem q2_120 : Cond.methodLink RL 409 yX6_day ∈ gU := gt_2 _ (List.mem_of_getElem? (i := 120) rfl) rfl
theorem q2_121 : Cond.instanceMethod yX6_day ∈ gU := gt_2 _ (List.mem_of_getElem? (i := 121) rfl) rfl
theorem q2_122 : Cond.selects RX6 yX6_day yX6_day ∈ gU := gt_2 _ (List.mem_of_getElem? (i := 122) rfl) rfl
theorem q2_123 : Cond.code yX6_day cX6_day 1 (some .int) ∈ gU := gt_2 _ (List.mem_of_getElem? (i := 123) rfl) rfl
theorem q2_124 : Cond.methodLink RL 419 yX6_allPoints ∈ gU := gt_2 _ (List.mem_of_getElem? (i := 124) rfl) rfl
theorem q2_125 : Cond.instanceMethod yX6_allPoints ∈ gU := gt_2 _ (List.mem_of_getElem? (i := 125) rfl) rfl
theorem q2_126 : Cond.selects RX6 yX6_allPoints yX6_allPoints ∈ gU := gt_2 _ (List.mem_of_getElem? (i := 126) rfl) rfl
theorem q2_127 : Cond.code yX6_allPoints cX6_allPoints 1 (some .int) ∈ gU := gt_2 _ (List.mem_of_getElem? (i := 127) rfl) rfl
theorem q2_128 : Cond.constant RX6 318 1048575 ∈ gU := gt_2 _ (List.mem_of_getElem? (i := 128) rfl) rfl
theorem q2_129 : Cond.methodLink RX6 315 yX0_pointsOfSet ∈ gU := gt_2 _ (List.mem_of_getElem? (i := 129) rfl) rfl
theorem q2_130 : Cond.methodLink RL 423 yX6_blockedTickets ∈ gU := gt_2 _ (List.mem_of_getElem? (i := 130) rfl) rfl
theorem q2_131 : Cond.instanceMethod yX6_blockedTickets ∈ gU := gt_2 _ (List.mem_of_getElem? (i := 131) rfl) rfl
theorem q2_132 : Cond.selects RX6 yX6_blockedTickets yX6_blockedTickets ∈ gU := gt_2 _ (List.mem_of_getElem? (i := 132) rfl) rfl
theorem q2_133 : Cond.code yX6_blockedTickets cX6_blockedTickets 1 (some .int) ∈ gU := gt_2 _ (List.mem_of_getElem? (i := 133) rfl) rfl
theorem q2_134 : Cond.methodLink RX6 319 yX5_blockedAndUnfinished ∈ gU := gt_2 _ (List.mem_of_getElem? (i := 134) rfl) rfl
theorem q2_135 : Cond.static yX5_blockedAndUnfinished ∈ gU := gt_2 _ (List.mem_of_getElem? (i := 135) rfl) rfl
theorem q2_136 : Cond.code yX5_blockedAndUnfinished cX5_blockedAndUnfinished 1 (some .int) ∈ gU := gt_2 _ (List.mem_of_getElem? (i := 136) rfl) rfl
theorem q2_137 : Cond.methodLink RX5 69 yX0_blockedSet ∈ gU := gt_2 _ (List.mem_of_getElem? (i := 137) rfl) rfl
theorem q2_138 : Cond.instanceMethod yX0_blockedSet ∈ gU := gt_2 _ (List.mem_of_getElem? (i := 138) rfl) rfl
theorem q2_139 : Cond.selects RX0 yX0_blockedSet yX0_blockedSet ∈ gU := gt_2 _ (List.mem_of_getElem? (i := 139) rfl) rfl
theorem q2_140 : Cond.code yX0_blockedSet cX0_blockedSet 1 (some .int) ∈ gU := gt_2 _ (List.mem_of_getElem? (i := 140) rfl) rfl
theorem q2_141 : Cond.methodLink RX0 99 yX0_unfinishedSet ∈ gU := gt_2 _ (List.mem_of_getElem? (i := 141) rfl) rfl
theorem q2_142 : Cond.methodLink RX0 96 yX0_thoseThatNeedAny ∈ gU := gt_2 _ (List.mem_of_getElem? (i := 142) rfl) rfl
theorem q2_143 : Cond.instanceMethod yX0_thoseThatNeedAny ∈ gU := gt_2 _ (List.mem_of_getElem? (i := 143) rfl) rfl
theorem q2_144 : Cond.selects RX0 yX0_thoseThatNeedAny yX0_thoseThatNeedAny ∈ gU := gt_2 _ (List.mem_of_getElem? (i := 144) rfl) rfl
theorem q2_145 : Cond.code yX0_thoseThatNeedAny cX0_thoseThatNeedAny 4 (some .int) ∈ gU := gt_2 _ (List.mem_of_getElem? (i := 145) rfl) rfl
theorem q2_146 : Cond.methodLink RX5 25 yJ6_bitCount_0f7a4 ∈ gU := gt_2 _ (List.mem_of_getElem? (i := 146) rfl) rfl
theorem q2_147 : Cond.static yJ6_bitCount_0f7a4 ∈ gU := gt_2 _ (List.mem_of_getElem? (i := 147) rfl) rfl
theorem q2_148 : Cond.code yJ6_bitCount_0f7a4 cJ6_bitCount_0f7a4 1 (some .int) ∈ gU := gt_2 _ (List.mem_of_getElem? (i := 148) rfl) rfl
theorem q2_149 : Cond.constant RJ6 265 1431655765 ∈ gU := gt_2 _ (List.mem_of_getElem? (i := 149) rfl) rfl
theorem q2_150 : Cond.constant RJ6 266 858993459 ∈ gU := gt_2 _ (List.mem_of_getElem? (i := 150) rfl) rfl
theorem q2_151 : Cond.constant RJ6 267 252645135 ∈ gU := gt_2 _ (List.mem_of_getElem? (i := 151) rfl) rfl
theorem q2_152 : Cond.methodLink RL 427 yX6_closings ∈ gU := gt_2 _ (List.mem_of_getElem? (i := 152) rfl) rfl
theorem q2_153 : Cond.instanceMethod yX6_closings ∈ gU := gt_2 _ (List.mem_of_getElem? (i := 153) rfl) rfl
theorem q2_154 : Cond.selects RX6 yX6_closings yX6_closings ∈ gU := gt_2 _ (List.mem_of_getElem? (i := 154) rfl) rfl
theorem q2_155 : Cond.code yX6_closings cX6_closings 1 (some .int) ∈ gU := gt_2 _ (List.mem_of_getElem? (i := 155) rfl) rfl
theorem q2_156 : Cond.methodLink RL 431 yX6_reopenings ∈ gU := gt_2 _ (List.mem_of_getElem? (i := 156) rfl) rfl
theorem q2_157 : Cond.instanceMethod yX6_reopenings ∈ gU := gt_2 _ (List.mem_of_getElem? (i := 157) rfl) rfl
theorem q2_158 : Cond.selects RX6 yX6_reopenings yX6_reopenings ∈ gU := gt_2 _ (List.mem_of_getElem? (i := 158) rfl) rfl
theorem q2_159 : Cond.code yX6_reopenings cX6_reopenings 1 (some .int) ∈ gU := gt_2 _ (List.mem_of_getElem? (i := 159) rfl) rfl
theorem q2_160 : Cond.methodLink RL 435 yX6_pointsOfWeek ∈ gU := gt_2 _ (List.mem_of_getElem? (i := 160) rfl) rfl
theorem q2_161 : Cond.instanceMethod yX6_pointsOfWeek ∈ gU := gt_2 _ (List.mem_of_getElem? (i := 161) rfl) rfl
theorem q2_162 : Cond.selects RX6 yX6_pointsOfWeek yX6_pointsOfWeek ∈ gU := gt_2 _ (List.mem_of_getElem? (i := 162) rfl) rfl
theorem q2_163 : Cond.code yX6_pointsOfWeek cX6_pointsOfWeek 1 (some .int) ∈ gU := gt_2 _ (List.mem_of_getElem? (i := 163) rfl) rfl
theorem q2_164 : Cond.methodLink RX6 325 yX5_closedInWeek ∈ gU := gt_2 _ (List.mem_of_getElem? (i := 164) rfl) rfl
theorem q2_165 : Cond.static yX5_closedInWeek ∈ gU := gt_2 _ (List.mem_of_getElem? (i := 165) rfl) rfl
theorem q2_166 : Cond.code yX5_closedInWeek cX5_closedInWeek 3 (some .int) ∈ gU := gt_2 _ (List.mem_of_getElem? (i := 166) rfl) rfl
theorem q2_167 : Cond.methodLink RL 439 yX6_meanDays ∈ gU := gt_2 _ (List.mem_of_getElem? (i := 167) rfl) rfl
theorem q2_168 : Cond.instanceMethod yX6_meanDays ∈ gU := gt_2 _ (List.mem_of_getElem? (i := 168) rfl) rfl
theorem q2_169 : Cond.selects RX6 yX6_meanDays yX6_meanDays ∈ gU := gt_2 _ (List.mem_of_getElem? (i := 169) rfl) rfl
theorem q2_170 : Cond.code yX6_meanDays cX6_meanDays 1 (some .double) ∈ gU := gt_2 _ (List.mem_of_getElem? (i := 170) rfl) rfl
theorem q2_171 : Cond.methodLink RX6 328 yX5_meanProgress ∈ gU := gt_2 _ (List.mem_of_getElem? (i := 171) rfl) rfl
theorem q2_172 : Cond.static yX5_meanProgress ∈ gU := gt_2 _ (List.mem_of_getElem? (i := 172) rfl) rfl
theorem q2_173 : Cond.code yX5_meanProgress cX5_meanProgress 4 (some .double) ∈ gU := gt_2 _ (List.mem_of_getElem? (i := 173) rfl) rfl
theorem q2_174 : Cond.methodLink RL 444 yX6_digest ∈ gU := gt_2 _ (List.mem_of_getElem? (i := 174) rfl) rfl
theorem q2_175 : Cond.instanceMethod yX6_digest ∈ gU := gt_2 _ (List.mem_of_getElem? (i := 175) rfl) rfl
theorem q2_176 : Cond.selects RX6 yX6_digest yX6_digest ∈ gU := gt_2 _ (List.mem_of_getElem? (i := 176) rfl) rfl
theorem q2_177 : Cond.code yX6_digest cX6_digest 4 (some .long) ∈ gU := gt_2 _ (List.mem_of_getElem? (i := 177) rfl) rfl
theorem q2_178 : Cond.constantLong RX6 332 4211 ∈ gU := gt_2 _ (List.mem_of_getElem? (i := 178) rfl) rfl
theorem q2_179 : Cond.methodLink RX6 334 yX6_mixed ∈ gU := gt_2 _ (List.mem_of_getElem? (i := 179) rfl) rfl
theorem q2_180 : Cond.static yX6_mixed ∈ gU := gt_2 _ (List.mem_of_getElem? (i := 180) rfl) rfl
theorem q2_181 : Cond.code yX6_mixed cX6_mixed 4 (some .long) ∈ gU := gt_2 _ (List.mem_of_getElem? (i := 181) rfl) rfl
theorem q2_182 : Cond.constantLong RX6 366 31 ∈ gU := gt_2 _ (List.mem_of_getElem? (i := 182) rfl) rfl
theorem q2_183 : Cond.methodLink RX6 338 yX6_withTicket ∈ gU := gt_2 _ (List.mem_of_getElem? (i := 183) rfl) rfl
theorem q2_185 : Cond.instanceMethod yX6_withTicket ∈ gU := gt_2 _ (List.mem_of_getElem? (i := 185) rfl) rfl
theorem q2_186 : Cond.code yX6_withTicket cX6_withTicket 8 (some .long) ∈ gU := gt_2 _ (List.mem_of_getElem? (i := 186) rfl) rfl
theorem q2_187 : Cond.methodLink RX6 248 yX0_blockerSet ∈ gU := gt_2 _ (List.mem_of_getElem? (i := 187) rfl) rfl
theorem q2_188 : Cond.instanceMethod yX0_blockerSet ∈ gU := gt_2 _ (List.mem_of_getElem? (i := 188) rfl) rfl
theorem q2_189 : Cond.selects RX0 yX0_blockerSet yX0_blockerSet ∈ gU := gt_2 _ (List.mem_of_getElem? (i := 189) rfl) rfl
theorem q2_190 : Cond.code yX0_blockerSet cX0_blockerSet 2 (some .int) ∈ gU := gt_2 _ (List.mem_of_getElem? (i := 190) rfl) rfl
theorem q2_191 : Cond.methodLink RX6 162 yJ6_bitCount_0f7a4 ∈ gU := gt_2 _ (List.mem_of_getElem? (i := 191) rfl) rfl
theorem q2_192 : Cond.methodLink RX6 355 yX6_oneIf ∈ gU := gt_2 _ (List.mem_of_getElem? (i := 192) rfl) rfl
theorem q2_193 : Cond.static yX6_oneIf ∈ gU := gt_2 _ (List.mem_of_getElem? (i := 193) rfl) rfl
theorem q2_194 : Cond.code yX6_oneIf cX6_oneIf 1 (some .int) ∈ gU := gt_2 _ (List.mem_of_getElem? (i := 194) rfl) rfl
theorem q2_195 : Cond.methodLink RX6 251 yX0_reachedFrom ∈ gU := gt_2 _ (List.mem_of_getElem? (i := 195) rfl) rfl
theorem q2_196 : Cond.instanceMethod yX0_reachedFrom ∈ gU := gt_2 _ (List.mem_of_getElem? (i := 196) rfl) rfl
theorem q2_197 : Cond.selects RX0 yX0_reachedFrom yX0_reachedFrom ∈ gU := gt_2 _ (List.mem_of_getElem? (i := 197) rfl) rfl
theorem q2_198 : Cond.code yX0_reachedFrom cX0_reachedFrom 5 (some .int) ∈ gU := gt_2 _ (List.mem_of_getElem? (i := 198) rfl) rfl
theorem q2_199 : Cond.methodLink RX0 103 yX0_neededByAny ∈ gU := gt_2 _ (List.mem_of_getElem? (i := 199) rfl) rfl
theorem q2_200 : Cond.instanceMethod yX0_neededByAny ∈ gU := gt_2 _ (List.mem_of_getElem? (i := 200) rfl) rfl
theorem q2_201 : Cond.selects RX0 yX0_neededByAny yX0_neededByAny ∈ gU := gt_2 _ (List.mem_of_getElem? (i := 201) rfl) rfl
theorem q2_202 : Cond.code yX0_neededByAny cX0_neededByAny 4 (some .int) ∈ gU := gt_2 _ (List.mem_of_getElem? (i := 202) rfl) rfl
theorem q2_203 : Cond.methodLink RX6 254 yX1_countByTable ∈ gU := gt_2 _ (List.mem_of_getElem? (i := 203) rfl) rfl
theorem q2_204 : Cond.instanceMethod yX1_countByTable ∈ gU := gt_2 _ (List.mem_of_getElem? (i := 204) rfl) rfl
theorem q2_205 : Cond.selects RX1 yX1_countByTable yX1_countByTable ∈ gU := gt_2 _ (List.mem_of_getElem? (i := 205) rfl) rfl
theorem q2_206 : Cond.code yX1_countByTable cX1_countByTable 6 (some .int) ∈ gU := gt_2 _ (List.mem_of_getElem? (i := 206) rfl) rfl
theorem q2_207 : Cond.methodLink RX1 37 yJ6_bitCount_0f7a4 ∈ gU := gt_2 _ (List.mem_of_getElem? (i := 207) rfl) rfl
theorem q2_208 : Cond.methodLink RX6 257 yX1_longestFrom ∈ gU := gt_2 _ (List.mem_of_getElem? (i := 208) rfl) rfl
theorem q2_209 : Cond.static yX1_longestFrom ∈ gU := gt_2 _ (List.mem_of_getElem? (i := 209) rfl) rfl
theorem q2_210 : Cond.code yX1_longestFrom cX1_longestFrom 4 (some .int) ∈ gU := gt_2 _ (List.mem_of_getElem? (i := 210) rfl) rfl
theorem q2_211 : Cond.methodLink RX1 46 yX0_neededByAny ∈ gU := gt_2 _ (List.mem_of_getElem? (i := 211) rfl) rfl
theorem q2_212 : Cond.methodLink RX6 86 yX0_needsDirectly ∈ gU := gt_2 _ (List.mem_of_getElem? (i := 212) rfl) rfl
theorem q2_213 : Cond.methodLink RX6 342 yX6_withOwner ∈ gU := gt_2 _ (List.mem_of_getElem? (i := 213) rfl) rfl
theorem q2_215 : Cond.instanceMethod yX6_withOwner ∈ gU := gt_2 _ (List.mem_of_getElem? (i := 215) rfl) rfl
theorem q2_216 : Cond.code yX6_withOwner cX6_withOwner 6 (some .long) ∈ gU := gt_2 _ (List.mem_of_getElem? (i := 216) rfl) rfl
theorem q2_217 : Cond.methodLink RX6 269 yX5_loadOf ∈ gU := gt_2 _ (List.mem_of_getElem? (i := 217) rfl) rfl
theorem q2_218 : Cond.static yX5_loadOf ∈ gU := gt_2 _ (List.mem_of_getElem? (i := 218) rfl) rfl
theorem q2_219 : Cond.code yX5_loadOf cX5_loadOf 2 (some .int) ∈ gU := gt_2 _ (List.mem_of_getElem? (i := 219) rfl) rfl
theorem q2_220 : Cond.methodLink RX5 9 yX0_ownedBy ∈ gU := gt_2 _ (List.mem_of_getElem? (i := 220) rfl) rfl
theorem q2_221 : Cond.instanceMethod yX0_ownedBy ∈ gU := gt_2 _ (List.mem_of_getElem? (i := 221) rfl) rfl
theorem q2_222 : Cond.selects RX0 yX0_ownedBy yX0_ownedBy ∈ gU := gt_2 _ (List.mem_of_getElem? (i := 222) rfl) rfl
theorem q2_223 : Cond.code yX0_ownedBy cX0_ownedBy 2 (some .int) ∈ gU := gt_2 _ (List.mem_of_getElem? (i := 223) rfl) rfl
theorem q2_224 : Cond.methodLink RX6 272 yX5_inProgressWith ∈ gU := gt_2 _ (List.mem_of_getElem? (i := 224) rfl) rfl
theorem q2_225 : Cond.static yX5_inProgressWith ∈ gU := gt_2 _ (List.mem_of_getElem? (i := 225) rfl) rfl
theorem q2_226 : Cond.code yX5_inProgressWith cX5_inProgressWith 2 (some .int) ∈ gU := gt_2 _ (List.mem_of_getElem? (i := 226) rfl) rfl
theorem q2_227 : Cond.methodLink RX5 22 yX0_inState ∈ gU := gt_2 _ (List.mem_of_getElem? (i := 227) rfl) rfl
theorem q2_228 : Cond.instanceMethod yX0_inState ∈ gU := gt_2 _ (List.mem_of_getElem? (i := 228) rfl) rfl
theorem q2_229 : Cond.selects RX0 yX0_inState yX0_inState ∈ gU := gt_2 _ (List.mem_of_getElem? (i := 229) rfl) rfl
theorem q2_230 : Cond.code yX0_inState cX0_inState 2 (some .int) ∈ gU := gt_2 _ (List.mem_of_getElem? (i := 230) rfl) rfl
theorem q2_231 : Cond.methodLink RX6 275 yX5_doneBy ∈ gU := gt_2 _ (List.mem_of_getElem? (i := 231) rfl) rfl
theorem q2_232 : Cond.static yX5_doneBy ∈ gU := gt_2 _ (List.mem_of_getElem? (i := 232) rfl) rfl
theorem q2_233 : Cond.code yX5_doneBy cX5_doneBy 2 (some .int) ∈ gU := gt_2 _ (List.mem_of_getElem? (i := 233) rfl) rfl
theorem q2_234 : Cond.methodLink RX6 345 yX6_withMilestone ∈ gU := gt_2 _ (List.mem_of_getElem? (i := 234) rfl) rfl
theorem q2_236 : Cond.instanceMethod yX6_withMilestone ∈ gU := gt_2 _ (List.mem_of_getElem? (i := 236) rfl) rfl
theorem q2_237 : Cond.code yX6_withMilestone cX6_withMilestone 6 (some .long) ∈ gU := gt_2 _ (List.mem_of_getElem? (i := 237) rfl) rfl
theorem q2_238 : Cond.methodLink RX6 127 yX5_leftFor ∈ gU := gt_2 _ (List.mem_of_getElem? (i := 238) rfl) rfl
theorem q2_239 : Cond.methodLink RX6 284 yX5_doneFor ∈ gU := gt_2 _ (List.mem_of_getElem? (i := 239) rfl) rfl
theorem q3_0 : Cond.static yX5_doneFor ∈ gU := gt_3 _ (List.mem_of_getElem? (i := 0) rfl) rfl
theorem q3_1 : Cond.code yX5_doneFor cX5_doneFor 2 (some .int) ∈ gU := gt_3 _ (List.mem_of_getElem? (i := 1) rfl) rfl
theorem q3_2 : Cond.methodLink RX6 287 yX5_hundredthsFor ∈ gU := gt_3 _ (List.mem_of_getElem? (i := 2) rfl) rfl
theorem q3_3 : Cond.static yX5_hundredthsFor ∈ gU := gt_3 _ (List.mem_of_getElem? (i := 3) rfl) rfl
theorem q3_4 : Cond.code yX5_hundredthsFor cX5_hundredthsFor 4 (some .int) ∈ gU := gt_3 _ (List.mem_of_getElem? (i := 4) rfl) rfl
theorem q3_5 : Cond.methodLink RX5 46 yX5_doneFor ∈ gU := gt_3 _ (List.mem_of_getElem? (i := 5) rfl) rfl
theorem q3_6 : Cond.methodLink RX6 290 yX5_isOverdue ∈ gU := gt_3 _ (List.mem_of_getElem? (i := 6) rfl) rfl
theorem q3_7 : Cond.methodLink RX6 294 yX5_plannedTooEarly ∈ gU := gt_3 _ (List.mem_of_getElem? (i := 7) rfl) rfl
theorem q3_8 : Cond.static yX5_plannedTooEarly ∈ gU := gt_3 _ (List.mem_of_getElem? (i := 8) rfl) rfl
theorem q3_9 : Cond.code yX5_plannedTooEarly cX5_plannedTooEarly 5 (some .int) ∈ gU := gt_3 _ (List.mem_of_getElem? (i := 9) rfl) rfl
theorem q3_10 : Cond.methodLink RX5 63 yX5_plannedBy ∈ gU := gt_3 _ (List.mem_of_getElem? (i := 10) rfl) rfl
theorem q3_11 : Cond.static yX5_plannedBy ∈ gU := gt_3 _ (List.mem_of_getElem? (i := 11) rfl) rfl
theorem q3_12 : Cond.code yX5_plannedBy cX5_plannedBy 4 (some .int) ∈ gU := gt_3 _ (List.mem_of_getElem? (i := 12) rfl) rfl
theorem q3_13 : Cond.methodLink RX5 66 yX0_thoseThatNeedAny ∈ gU := gt_3 _ (List.mem_of_getElem? (i := 13) rfl) rfl
theorem q3_14 : Cond.methodLink RX6 348 yX6_withWhatToDo ∈ gU := gt_3 _ (List.mem_of_getElem? (i := 14) rfl) rfl
theorem q3_16 : Cond.instanceMethod yX6_withWhatToDo ∈ gU := gt_3 _ (List.mem_of_getElem? (i := 16) rfl) rfl
theorem q3_17 : Cond.code yX6_withWhatToDo cX6_withWhatToDo 7 (some .long) ∈ gU := gt_3 _ (List.mem_of_getElem? (i := 17) rfl) rfl
theorem q3_18 : Cond.methodLink RX6 300 yX1_nextOpen ∈ gU := gt_3 _ (List.mem_of_getElem? (i := 18) rfl) rfl
theorem q3_19 : Cond.static yX1_nextOpen ∈ gU := gt_3 _ (List.mem_of_getElem? (i := 19) rfl) rfl
theorem q3_20 : Cond.code yX1_nextOpen cX1_nextOpen 1 (some .int) ∈ gU := gt_3 _ (List.mem_of_getElem? (i := 20) rfl) rfl
theorem q3_21 : Cond.methodLink RX1 79 yX0_inState ∈ gU := gt_3 _ (List.mem_of_getElem? (i := 21) rfl) rfl
theorem q3_22 : Cond.methodLink RX1 82 yX0_blockedSet ∈ gU := gt_3 _ (List.mem_of_getElem? (i := 22) rfl) rfl
theorem q3_23 : Cond.methodLink RX1 86 yX1_firstOf ∈ gU := gt_3 _ (List.mem_of_getElem? (i := 23) rfl) rfl
theorem q3_24 : Cond.static yX1_firstOf ∈ gU := gt_3 _ (List.mem_of_getElem? (i := 24) rfl) rfl
theorem q3_25 : Cond.code yX1_firstOf cX1_firstOf 4 (some .int) ∈ gU := gt_3 _ (List.mem_of_getElem? (i := 25) rfl) rfl
theorem q3_26 : Cond.methodLink RX1 95 yX1_comesBefore ∈ gU := gt_3 _ (List.mem_of_getElem? (i := 26) rfl) rfl
theorem q3_27 : Cond.static yX1_comesBefore ∈ gU := gt_3 _ (List.mem_of_getElem? (i := 27) rfl) rfl
theorem q3_28 : Cond.code yX1_comesBefore cX1_comesBefore 3 (some .boolean) ∈ gU := gt_3 _ (List.mem_of_getElem? (i := 28) rfl) rfl
theorem q3_29 : Cond.methodLink RX6 303 yX1_fillClosingOrder ∈ gU := gt_3 _ (List.mem_of_getElem? (i := 29) rfl) rfl
theorem q3_30 : Cond.instanceMethod yX1_fillClosingOrder ∈ gU := gt_3 _ (List.mem_of_getElem? (i := 30) rfl) rfl
theorem q3_31 : Cond.selects RX1 yX1_fillClosingOrder yX1_fillClosingOrder ∈ gU := gt_3 _ (List.mem_of_getElem? (i := 31) rfl) rfl
theorem q3_32 : Cond.code yX1_fillClosingOrder cX1_fillClosingOrder 5 (some .int) ∈ gU := gt_3 _ (List.mem_of_getElem? (i := 32) rfl) rfl
theorem q3_33 : Cond.methodLink RX1 89 yX0_unfinishedSet ∈ gU := gt_3 _ (List.mem_of_getElem? (i := 33) rfl) rfl
theorem q3_34 : Cond.methodLink RX1 92 yX1_freeOf ∈ gU := gt_3 _ (List.mem_of_getElem? (i := 34) rfl) rfl
theorem q3_35 : Cond.static yX1_freeOf ∈ gU := gt_3 _ (List.mem_of_getElem? (i := 35) rfl) rfl
theorem q3_36 : Cond.code yX1_freeOf cX1_freeOf 4 (some .int) ∈ gU := gt_3 _ (List.mem_of_getElem? (i := 36) rfl) rfl
theorem q3_37 : Cond.methodLink RX6 352 yX6_withAccounts ∈ gU := gt_3 _ (List.mem_of_getElem? (i := 37) rfl) rfl
theorem q3_39 : Cond.instanceMethod yX6_withAccounts ∈ gU := gt_3 _ (List.mem_of_getElem? (i := 39) rfl) rfl
theorem q3_40 : Cond.code yX6_withAccounts cX6_withAccounts 5 (some .long) ∈ gU := gt_3 _ (List.mem_of_getElem? (i := 40) rfl) rfl
theorem q3_41 : Cond.methodLink RX6 362 yX6_bitsOf ∈ gU := gt_3 _ (List.mem_of_getElem? (i := 41) rfl) rfl
theorem q3_42 : Cond.static yX6_bitsOf ∈ gU := gt_3 _ (List.mem_of_getElem? (i := 42) rfl) rfl
theorem q3_43 : Cond.code yX6_bitsOf cX6_bitsOf 7 (some .long) ∈ gU := gt_3 _ (List.mem_of_getElem? (i := 43) rfl) rfl
theorem q3_44 : Cond.constantLong RX6 368 1023 ∈ gU := gt_3 _ (List.mem_of_getElem? (i := 44) rfl) rfl
theorem q3_45 : Cond.constantDouble RX6 370 4611686018427387904 ∈ gU := gt_3 _ (List.mem_of_getElem? (i := 45) rfl) rfl
theorem q3_46 : Cond.constantDouble RX6 372 4841369599423283200 ∈ gU := gt_3 _ (List.mem_of_getElem? (i := 46) rfl) rfl
theorem q3_47 : Cond.methodLink RX6 209 yX3_hasKept ∈ gU := gt_3 _ (List.mem_of_getElem? (i := 47) rfl) rfl
theorem q3_48 : Cond.instanceMethod yX3_hasKept ∈ gU := gt_3 _ (List.mem_of_getElem? (i := 48) rfl) rfl
theorem q3_49 : Cond.selects RX3 yX3_hasKept yX3_hasKept ∈ gU := gt_3 _ (List.mem_of_getElem? (i := 49) rfl) rfl
theorem q3_50 : Cond.code yX3_hasKept cX3_hasKept 2 (some .boolean) ∈ gU := gt_3 _ (List.mem_of_getElem? (i := 50) rfl) rfl
theorem q3_51 : Cond.methodLink RX6 359 yX4_mixedInto ∈ gU := gt_3 _ (List.mem_of_getElem? (i := 51) rfl) rfl
theorem q3_52 : Cond.instanceMethod yX4_mixedInto ∈ gU := gt_3 _ (List.mem_of_getElem? (i := 52) rfl) rfl
theorem q3_53 : Cond.selects RX4 yX4_mixedInto yX4_mixedInto ∈ gU := gt_3 _ (List.mem_of_getElem? (i := 53) rfl) rfl
theorem q3_54 : Cond.code yX4_mixedInto cX4_mixedInto 6 (some .long) ∈ gU := gt_3 _ (List.mem_of_getElem? (i := 54) rfl) rfl
theorem q3_56 : Cond.methodLink RL 199 yL_openTicket ∈ gU := gt_3 _ (List.mem_of_getElem? (i := 56) rfl) rfl
theorem q3_57 : Cond.static yL_openTicket ∈ gU := gt_3 _ (List.mem_of_getElem? (i := 57) rfl) rfl
theorem q3_58 : Cond.codeWith yL_openTicket cL_openTicket 5 (some .int) [((0 : Nat), (10 : Nat), (13 : Nat), (13 : Nat)), ((0 : Nat), (10 : Nat), (17 : Nat), (15 : Nat))] ∈ gU := gt_3 _ (List.mem_of_getElem? (i := 58) rfl) rfl
theorem q3_59 : Cond.classLink RL 13 "java/lang/IllegalArgumentException" ∈ gU := gt_3 _ (List.mem_of_getElem? (i := 59) rfl) rfl
theorem q3_60 : Cond.classLink RL 15 "java/lang/IllegalStateException" ∈ gU := gt_3 _ (List.mem_of_getElem? (i := 60) rfl) rfl
theorem q3_61 : Cond.methodLink RL 7 yX6_openTicket ∈ gU := gt_3 _ (List.mem_of_getElem? (i := 61) rfl) rfl
theorem q3_62 : Cond.instanceMethod yX6_openTicket ∈ gU := gt_3 _ (List.mem_of_getElem? (i := 62) rfl) rfl
theorem q3_63 : Cond.selects RX6 yX6_openTicket yX6_openTicket ∈ gU := gt_3 _ (List.mem_of_getElem? (i := 63) rfl) rfl
theorem q3_64 : Cond.code yX6_openTicket cX6_openTicket 3 (some .int) ∈ gU := gt_3 _ (List.mem_of_getElem? (i := 64) rfl) rfl
theorem q3_65 : Cond.methodLink RX6 40 yX6_within ∈ gU := gt_3 _ (List.mem_of_getElem? (i := 65) rfl) rfl
theorem q3_66 : Cond.static yX6_within ∈ gU := gt_3 _ (List.mem_of_getElem? (i := 66) rfl) rfl
theorem q3_67 : Cond.code yX6_within cX6_within 3 (some .boolean) ∈ gU := gt_3 _ (List.mem_of_getElem? (i := 67) rfl) rfl
theorem q3_68 : Cond.methodLink RX6 44 yX6_requireArgument ∈ gU := gt_3 _ (List.mem_of_getElem? (i := 68) rfl) rfl
theorem q3_69 : Cond.static yX6_requireArgument ∈ gU := gt_3 _ (List.mem_of_getElem? (i := 69) rfl) rfl
theorem q3_70 : Cond.code yX6_requireArgument cX6_requireArgument 1 none ∈ gU := gt_3 _ (List.mem_of_getElem? (i := 70) rfl) rfl
theorem q3_71 : Cond.classLink RX6 381 "java/lang/IllegalArgumentException" ∈ gU := gt_3 _ (List.mem_of_getElem? (i := 71) rfl) rfl
theorem q3_72 : Cond.instantiable "java/lang/IllegalArgumentException" 6 ∈ gU := gt_3 _ (List.mem_of_getElem? (i := 72) rfl) rfl
theorem q3_80 : Cond.selects "java/lang/IllegalArgumentException" (⟨"java/lang/Throwable", "fillInStackTrace", "(I)Ljava/lang/Throwable;"⟩ : MethodName) (⟨"java/lang/Throwable", "fillInStackTrace", "(I)Ljava/lang/Throwable;"⟩ : MethodName) ∈ gU := gt_3 _ (List.mem_of_getElem? (i := 80) rfl) rfl
theorem q3_81 : Cond.selects "java/lang/IllegalArgumentException" (⟨"java/lang/Throwable", "fillInStackTrace", "()Ljava/lang/Throwable;"⟩ : MethodName) (⟨"java/lang/Throwable", "fillInStackTrace", "()Ljava/lang/Throwable;"⟩ : MethodName) ∈ gU := gt_3 _ (List.mem_of_getElem? (i := 81) rfl) rfl
theorem q3_82 : Cond.lays "java/lang/IllegalArgumentException" "java/lang/Throwable" "cause" "Ljava/lang/Throwable;" ∈ gU := gt_3 _ (List.mem_of_getElem? (i := 82) rfl) rfl
theorem q3_83 : Cond.lays "java/lang/Throwable" "java/lang/Throwable" "cause" "Ljava/lang/Throwable;" ∈ gU := gt_3 _ (List.mem_of_getElem? (i := 83) rfl) rfl
theorem q3_84 : Cond.lays "java/lang/IllegalArgumentException" "java/lang/Throwable" "stackTrace" "[Ljava/lang/StackTraceElement;" ∈ gU := gt_3 _ (List.mem_of_getElem? (i := 84) rfl) rfl
theorem q3_85 : Cond.lays "java/lang/Throwable" "java/lang/Throwable" "stackTrace" "[Ljava/lang/StackTraceElement;" ∈ gU := gt_3 _ (List.mem_of_getElem? (i := 85) rfl) rfl
theorem q3_86 : Cond.lays "java/lang/IllegalArgumentException" "java/lang/Throwable" "suppressedExceptions" "Ljava/util/List;" ∈ gU := gt_3 _ (List.mem_of_getElem? (i := 86) rfl) rfl
theorem q3_87 : Cond.lays "java/lang/Throwable" "java/lang/Throwable" "suppressedExceptions" "Ljava/util/List;" ∈ gU := gt_3 _ (List.mem_of_getElem? (i := 87) rfl) rfl
theorem q3_88 : Cond.lays "java/lang/IllegalArgumentException" "java/lang/Throwable" "detailMessage" "Ljava/lang/String;" ∈ gU := gt_3 _ (List.mem_of_getElem? (i := 88) rfl) rfl
theorem q3_89 : Cond.lays "java/lang/Throwable" "java/lang/Throwable" "detailMessage" "Ljava/lang/String;" ∈ gU := gt_3 _ (List.mem_of_getElem? (i := 89) rfl) rfl
theorem q3_90 : Cond.lays "java/lang/IllegalArgumentException" "java/lang/Throwable" "backtrace" "Ljava/lang/Object;" ∈ gU := gt_3 _ (List.mem_of_getElem? (i := 90) rfl) rfl
theorem q3_91 : Cond.lays "java/lang/Throwable" "java/lang/Throwable" "backtrace" "Ljava/lang/Object;" ∈ gU := gt_3 _ (List.mem_of_getElem? (i := 91) rfl) rfl
theorem q3_92 : Cond.fieldLink "java/lang/Throwable" 198 "java/lang/Throwable" "backtrace" "Ljava/lang/Object;" ∈ gU := gt_3 _ (List.mem_of_getElem? (i := 92) rfl) rfl
theorem q3_94 : Cond.instanceMethod (⟨"java/lang/Throwable", "<init>", "()V"⟩ : MethodName) ∈ gU := gt_3 _ (List.mem_of_getElem? (i := 94) rfl) rfl
theorem q3_95 : Cond.code (⟨"java/lang/Throwable", "<init>", "()V"⟩ : MethodName) prog_20_method_1_code 1 none ∈ gU := gt_3 _ (List.mem_of_getElem? (i := 95) rfl) rfl
theorem q3_96 : Cond.methodLink "java/lang/Throwable" 1 objectInit ∈ gU := gt_3 _ (List.mem_of_getElem? (i := 96) rfl) rfl
theorem q3_97 : Cond.fieldLink "java/lang/Throwable" 13 "java/lang/Throwable" "UNASSIGNED_STACK" "[Ljava/lang/StackTraceElement;" ∈ gU := gt_3 _ (List.mem_of_getElem? (i := 97) rfl) rfl
theorem q3_99 : Cond.fieldLink "java/lang/Throwable" 20 "java/lang/Throwable" "SUPPRESSED_SENTINEL" "Ljava/util/List;" ∈ gU := gt_3 _ (List.mem_of_getElem? (i := 99) rfl) rfl
theorem q3_101 : Cond.methodLink "java/lang/Throwable" 27 (⟨"java/lang/Throwable", "fillInStackTrace", "()Ljava/lang/Throwable;"⟩ : MethodName) ∈ gU := gt_3 _ (List.mem_of_getElem? (i := 101) rfl) rfl
theorem q3_102 : Cond.instanceMethod (⟨"java/lang/Throwable", "fillInStackTrace", "()Ljava/lang/Throwable;"⟩ : MethodName) ∈ gU := gt_3 _ (List.mem_of_getElem? (i := 102) rfl) rfl
theorem q3_104 : Cond.selects "java/lang/IllegalStateException" (⟨"java/lang/Throwable", "fillInStackTrace", "()Ljava/lang/Throwable;"⟩ : MethodName) (⟨"java/lang/Throwable", "fillInStackTrace", "()Ljava/lang/Throwable;"⟩ : MethodName) ∈ gU := gt_3 _ (List.mem_of_getElem? (i := 104) rfl) rfl
theorem q3_105 : Cond.selects "java/lang/IndexOutOfBoundsException" (⟨"java/lang/Throwable", "fillInStackTrace", "()Ljava/lang/Throwable;"⟩ : MethodName) (⟨"java/lang/Throwable", "fillInStackTrace", "()Ljava/lang/Throwable;"⟩ : MethodName) ∈ gU := gt_3 _ (List.mem_of_getElem? (i := 105) rfl) rfl
theorem q3_107 : Cond.methodLink "java/lang/Throwable" 202 (⟨"java/lang/Throwable", "fillInStackTrace", "(I)Ljava/lang/Throwable;"⟩ : MethodName) ∈ gU := gt_3 _ (List.mem_of_getElem? (i := 107) rfl) rfl
theorem q3_109 : Cond.instanceMethod (⟨"java/lang/Throwable", "fillInStackTrace", "(I)Ljava/lang/Throwable;"⟩ : MethodName) ∈ gU := gt_3 _ (List.mem_of_getElem? (i := 109) rfl) rfl
theorem q3_110 : Cond.instantiable "java/lang/Throwable" 6 ∈ gU := gt_3 _ (List.mem_of_getElem? (i := 110) rfl) rfl
theorem q3_111 : Cond.native (⟨"java/lang/Throwable", "fillInStackTrace", "(I)Ljava/lang/Throwable;"⟩ : MethodName) ∈ gU := gt_3 _ (List.mem_of_getElem? (i := 111) rfl) rfl
theorem q3_113 : Cond.methodLink RX6 385 (⟨"java/lang/IllegalArgumentException", "<init>", "(Ljava/lang/String;)V"⟩ : MethodName) ∈ gU := gt_3 _ (List.mem_of_getElem? (i := 113) rfl) rfl
theorem q3_114 : Cond.instanceMethod (⟨"java/lang/IllegalArgumentException", "<init>", "(Ljava/lang/String;)V"⟩ : MethodName) ∈ gU := gt_3 _ (List.mem_of_getElem? (i := 114) rfl) rfl
theorem q3_115 : Cond.code (⟨"java/lang/IllegalArgumentException", "<init>", "(Ljava/lang/String;)V"⟩ : MethodName) prog_12_method_2_code 2 none ∈ gU := gt_3 _ (List.mem_of_getElem? (i := 115) rfl) rfl
theorem q3_116 : Cond.methodLink "java/lang/IllegalArgumentException" 7 (⟨"java/lang/RuntimeException", "<init>", "(Ljava/lang/String;)V"⟩ : MethodName) ∈ gU := gt_3 _ (List.mem_of_getElem? (i := 116) rfl) rfl
theorem q3_117 : Cond.instanceMethod (⟨"java/lang/RuntimeException", "<init>", "(Ljava/lang/String;)V"⟩ : MethodName) ∈ gU := gt_3 _ (List.mem_of_getElem? (i := 117) rfl) rfl
theorem q3_118 : Cond.code (⟨"java/lang/RuntimeException", "<init>", "(Ljava/lang/String;)V"⟩ : MethodName) prog_17_method_2_code 2 none ∈ gU := gt_3 _ (List.mem_of_getElem? (i := 118) rfl) rfl
theorem q3_119 : Cond.methodLink "java/lang/RuntimeException" 7 (⟨"java/lang/Exception", "<init>", "(Ljava/lang/String;)V"⟩ : MethodName) ∈ gU := gt_3 _ (List.mem_of_getElem? (i := 119) rfl) rfl
theorem q3_120 : Cond.instanceMethod (⟨"java/lang/Exception", "<init>", "(Ljava/lang/String;)V"⟩ : MethodName) ∈ gU := gt_3 _ (List.mem_of_getElem? (i := 120) rfl) rfl
theorem q3_121 : Cond.code (⟨"java/lang/Exception", "<init>", "(Ljava/lang/String;)V"⟩ : MethodName) prog_11_method_2_code 2 none ∈ gU := gt_3 _ (List.mem_of_getElem? (i := 121) rfl) rfl
theorem q3_122 : Cond.methodLink "java/lang/Exception" 7 (⟨"java/lang/Throwable", "<init>", "(Ljava/lang/String;)V"⟩ : MethodName) ∈ gU := gt_3 _ (List.mem_of_getElem? (i := 122) rfl) rfl
theorem q3_123 : Cond.instanceMethod (⟨"java/lang/Throwable", "<init>", "(Ljava/lang/String;)V"⟩ : MethodName) ∈ gU := gt_3 _ (List.mem_of_getElem? (i := 123) rfl) rfl
theorem q3_124 : Cond.code (⟨"java/lang/Throwable", "<init>", "(Ljava/lang/String;)V"⟩ : MethodName) prog_20_method_2_code 2 none ∈ gU := gt_3 _ (List.mem_of_getElem? (i := 124) rfl) rfl
theorem q3_126 : Cond.fieldLink "java/lang/Throwable" 31 "java/lang/Throwable" "detailMessage" "Ljava/lang/String;" ∈ gU := gt_3 _ (List.mem_of_getElem? (i := 126) rfl) rfl
theorem q3_127 : Cond.fieldLink "java/lang/Throwable" 7 "java/lang/Throwable" "cause" "Ljava/lang/Throwable;" ∈ gU := gt_3 _ (List.mem_of_getElem? (i := 127) rfl) rfl
theorem q3_128 : Cond.fieldLink "java/lang/Throwable" 17 "java/lang/Throwable" "stackTrace" "[Ljava/lang/StackTraceElement;" ∈ gU := gt_3 _ (List.mem_of_getElem? (i := 128) rfl) rfl
theorem q3_129 : Cond.fieldLink "java/lang/Throwable" 24 "java/lang/Throwable" "suppressedExceptions" "Ljava/util/List;" ∈ gU := gt_3 _ (List.mem_of_getElem? (i := 129) rfl) rfl
theorem q3_134 : Cond.lays "java/lang/IllegalArgumentException" "java/lang/Throwable" "depth" "I" ∈ gU := gt_3 _ (List.mem_of_getElem? (i := 134) rfl) rfl
theorem q3_138 : Cond.arrayClass .byte ∈ gU := gt_3 _ (List.mem_of_getElem? (i := 138) rfl) rfl
theorem q3_139 : Cond.methodLink RX6 48 yX0_hasRoom ∈ gU := gt_3 _ (List.mem_of_getElem? (i := 139) rfl) rfl
theorem q3_140 : Cond.instanceMethod yX0_hasRoom ∈ gU := gt_3 _ (List.mem_of_getElem? (i := 140) rfl) rfl
theorem q3_141 : Cond.selects RX0 yX0_hasRoom yX0_hasRoom ∈ gU := gt_3 _ (List.mem_of_getElem? (i := 141) rfl) rfl
theorem q3_142 : Cond.code yX0_hasRoom cX0_hasRoom 1 (some .boolean) ∈ gU := gt_3 _ (List.mem_of_getElem? (i := 142) rfl) rfl
theorem q3_143 : Cond.methodLink RX6 52 yX6_requireState ∈ gU := gt_3 _ (List.mem_of_getElem? (i := 143) rfl) rfl
theorem q3_144 : Cond.static yX6_requireState ∈ gU := gt_3 _ (List.mem_of_getElem? (i := 144) rfl) rfl
theorem q3_145 : Cond.code yX6_requireState cX6_requireState 1 none ∈ gU := gt_3 _ (List.mem_of_getElem? (i := 145) rfl) rfl
theorem q3_146 : Cond.classLink RX6 386 "java/lang/IllegalStateException" ∈ gU := gt_3 _ (List.mem_of_getElem? (i := 146) rfl) rfl
theorem q3_147 : Cond.instantiable "java/lang/IllegalStateException" 6 ∈ gU := gt_3 _ (List.mem_of_getElem? (i := 147) rfl) rfl
theorem q3_149 : Cond.selects "java/lang/IllegalStateException" (⟨"java/lang/Throwable", "fillInStackTrace", "(I)Ljava/lang/Throwable;"⟩ : MethodName) (⟨"java/lang/Throwable", "fillInStackTrace", "(I)Ljava/lang/Throwable;"⟩ : MethodName) ∈ gU := gt_3 _ (List.mem_of_getElem? (i := 149) rfl) rfl
theorem q3_150 : Cond.lays "java/lang/IllegalStateException" "java/lang/Throwable" "cause" "Ljava/lang/Throwable;" ∈ gU := gt_3 _ (List.mem_of_getElem? (i := 150) rfl) rfl
theorem q3_151 : Cond.lays "java/lang/IllegalStateException" "java/lang/Throwable" "stackTrace" "[Ljava/lang/StackTraceElement;" ∈ gU := gt_3 _ (List.mem_of_getElem? (i := 151) rfl) rfl
theorem q3_152 : Cond.lays "java/lang/IllegalStateException" "java/lang/Throwable" "suppressedExceptions" "Ljava/util/List;" ∈ gU := gt_3 _ (List.mem_of_getElem? (i := 152) rfl) rfl
theorem q3_153 : Cond.lays "java/lang/IllegalStateException" "java/lang/Throwable" "detailMessage" "Ljava/lang/String;" ∈ gU := gt_3 _ (List.mem_of_getElem? (i := 153) rfl) rfl
theorem q3_154 : Cond.lays "java/lang/IllegalStateException" "java/lang/Throwable" "backtrace" "Ljava/lang/Object;" ∈ gU := gt_3 _ (List.mem_of_getElem? (i := 154) rfl) rfl
theorem q3_156 : Cond.methodLink RX6 390 (⟨"java/lang/IllegalStateException", "<init>", "(Ljava/lang/String;)V"⟩ : MethodName) ∈ gU := gt_3 _ (List.mem_of_getElem? (i := 156) rfl) rfl
theorem q3_157 : Cond.instanceMethod (⟨"java/lang/IllegalStateException", "<init>", "(Ljava/lang/String;)V"⟩ : MethodName) ∈ gU := gt_3 _ (List.mem_of_getElem? (i := 157) rfl) rfl
theorem q3_158 : Cond.code (⟨"java/lang/IllegalStateException", "<init>", "(Ljava/lang/String;)V"⟩ : MethodName) prog_13_method_2_code 2 none ∈ gU := gt_3 _ (List.mem_of_getElem? (i := 158) rfl) rfl
theorem q3_159 : Cond.methodLink "java/lang/IllegalStateException" 7 (⟨"java/lang/RuntimeException", "<init>", "(Ljava/lang/String;)V"⟩ : MethodName) ∈ gU := gt_3 _ (List.mem_of_getElem? (i := 159) rfl) rfl
theorem q3_160 : Cond.lays "java/lang/IllegalStateException" "java/lang/Throwable" "depth" "I" ∈ gU := gt_3 _ (List.mem_of_getElem? (i := 160) rfl) rfl
theorem q3_162 : Cond.methodLink RX6 55 yX3_save ∈ gU := gt_3 _ (List.mem_of_getElem? (i := 162) rfl) rfl
theorem q3_163 : Cond.instanceMethod yX3_save ∈ gU := gt_3 _ (List.mem_of_getElem? (i := 163) rfl) rfl
theorem q3_164 : Cond.selects RX3 yX3_save yX3_save ∈ gU := gt_3 _ (List.mem_of_getElem? (i := 164) rfl) rfl
theorem q3_165 : Cond.code yX3_save cX3_save 2 none ∈ gU := gt_3 _ (List.mem_of_getElem? (i := 165) rfl) rfl
theorem q3_166 : Cond.methodLink RX3 32 yX0_copyFrom ∈ gU := gt_3 _ (List.mem_of_getElem? (i := 166) rfl) rfl
theorem q3_167 : Cond.instanceMethod yX0_copyFrom ∈ gU := gt_3 _ (List.mem_of_getElem? (i := 167) rfl) rfl
theorem q3_168 : Cond.selects RX0 yX0_copyFrom yX0_copyFrom ∈ gU := gt_3 _ (List.mem_of_getElem? (i := 168) rfl) rfl
theorem q3_169 : Cond.code yX0_copyFrom cX0_copyFrom 2 none ∈ gU := gt_3 _ (List.mem_of_getElem? (i := 169) rfl) rfl
theorem q3_170 : Cond.methodLink RX0 64 yX0_copyRow ∈ gU := gt_3 _ (List.mem_of_getElem? (i := 170) rfl) rfl
theorem q3_171 : Cond.static yX0_copyRow ∈ gU := gt_3 _ (List.mem_of_getElem? (i := 171) rfl) rfl
theorem q3_172 : Cond.code yX0_copyRow cX0_copyRow 2 none ∈ gU := gt_3 _ (List.mem_of_getElem? (i := 172) rfl) rfl
theorem q3_173 : Cond.methodLink RX0 68 yJ9_min_7cf53 ∈ gU := gt_3 _ (List.mem_of_getElem? (i := 173) rfl) rfl
theorem q3_174 : Cond.static yJ9_min_7cf53 ∈ gU := gt_3 _ (List.mem_of_getElem? (i := 174) rfl) rfl
theorem q3_175 : Cond.code yJ9_min_7cf53 cJ9_min_7cf53 2 (some .int) ∈ gU := gt_3 _ (List.mem_of_getElem? (i := 175) rfl) rfl
theorem q3_176 : Cond.methodLink RX0 74 (⟨"java/lang/System", "arraycopy", "(Ljava/lang/Object;ILjava/lang/Object;II)V"⟩ : MethodName) ∈ gU := gt_3 _ (List.mem_of_getElem? (i := 176) rfl) rfl
theorem q3_177 : Cond.static (⟨"java/lang/System", "arraycopy", "(Ljava/lang/Object;ILjava/lang/Object;II)V"⟩ : MethodName) ∈ gU := gt_3 _ (List.mem_of_getElem? (i := 177) rfl) rfl
theorem q3_178 : Cond.native (⟨"java/lang/System", "arraycopy", "(Ljava/lang/Object;ILjava/lang/Object;II)V"⟩ : MethodName) ∈ gU := gt_3 _ (List.mem_of_getElem? (i := 178) rfl) rfl
theorem q3_179 : Cond.methodLink RX6 59 yX0_addTicket ∈ gU := gt_3 _ (List.mem_of_getElem? (i := 179) rfl) rfl
theorem q3_180 : Cond.instanceMethod yX0_addTicket ∈ gU := gt_3 _ (List.mem_of_getElem? (i := 180) rfl) rfl
theorem q3_181 : Cond.selects RX0 yX0_addTicket yX0_addTicket ∈ gU := gt_3 _ (List.mem_of_getElem? (i := 181) rfl) rfl
theorem q3_182 : Cond.code yX0_addTicket cX0_addTicket 4 (some .int) ∈ gU := gt_3 _ (List.mem_of_getElem? (i := 182) rfl) rfl
theorem q3_183 : Cond.methodLink RL 208 yL_reestimate ∈ gU := gt_3 _ (List.mem_of_getElem? (i := 183) rfl) rfl
theorem q3_184 : Cond.static yL_reestimate ∈ gU := gt_3 _ (List.mem_of_getElem? (i := 184) rfl) rfl
theorem q3_185 : Cond.codeWith yL_reestimate cL_reestimate 5 (some .int) [((0 : Nat), (10 : Nat), (13 : Nat), (20 : Nat)), ((0 : Nat), (10 : Nat), (17 : Nat), (13 : Nat)), ((0 : Nat), (10 : Nat), (21 : Nat), (15 : Nat))] ∈ gU := gt_3 _ (List.mem_of_getElem? (i := 185) rfl) rfl
theorem q3_186 : Cond.classLink RL 20 "java/lang/IndexOutOfBoundsException" ∈ gU := gt_3 _ (List.mem_of_getElem? (i := 186) rfl) rfl
theorem q3_187 : Cond.methodLink RL 17 yX6_reestimate ∈ gU := gt_3 _ (List.mem_of_getElem? (i := 187) rfl) rfl
theorem q3_188 : Cond.instanceMethod yX6_reestimate ∈ gU := gt_3 _ (List.mem_of_getElem? (i := 188) rfl) rfl
theorem q3_189 : Cond.selects RX6 yX6_reestimate yX6_reestimate ∈ gU := gt_3 _ (List.mem_of_getElem? (i := 189) rfl) rfl
theorem q3_190 : Cond.code yX6_reestimate cX6_reestimate 3 (some .int) ∈ gU := gt_3 _ (List.mem_of_getElem? (i := 190) rfl) rfl
theorem q3_191 : Cond.methodLink RX6 63 yX0_hasTicket ∈ gU := gt_3 _ (List.mem_of_getElem? (i := 191) rfl) rfl
theorem q3_192 : Cond.instanceMethod yX0_hasTicket ∈ gU := gt_3 _ (List.mem_of_getElem? (i := 192) rfl) rfl
theorem q3_193 : Cond.selects RX0 yX0_hasTicket yX0_hasTicket ∈ gU := gt_3 _ (List.mem_of_getElem? (i := 193) rfl) rfl
theorem q3_194 : Cond.code yX0_hasTicket cX0_hasTicket 2 (some .boolean) ∈ gU := gt_3 _ (List.mem_of_getElem? (i := 194) rfl) rfl
theorem q3_195 : Cond.methodLink RX6 67 yX6_requireIndex ∈ gU := gt_3 _ (List.mem_of_getElem? (i := 195) rfl) rfl
theorem q3_196 : Cond.static yX6_requireIndex ∈ gU := gt_3 _ (List.mem_of_getElem? (i := 196) rfl) rfl
theorem q3_197 : Cond.code yX6_requireIndex cX6_requireIndex 1 none ∈ gU := gt_3 _ (List.mem_of_getElem? (i := 197) rfl) rfl
theorem q3_198 : Cond.classLink RX6 374 "java/lang/IndexOutOfBoundsException" ∈ gU := gt_3 _ (List.mem_of_getElem? (i := 198) rfl) rfl
theorem q3_199 : Cond.instantiable "java/lang/IndexOutOfBoundsException" 6 ∈ gU := gt_3 _ (List.mem_of_getElem? (i := 199) rfl) rfl
theorem q3_201 : Cond.selects "java/lang/IndexOutOfBoundsException" (⟨"java/lang/Throwable", "fillInStackTrace", "(I)Ljava/lang/Throwable;"⟩ : MethodName) (⟨"java/lang/Throwable", "fillInStackTrace", "(I)Ljava/lang/Throwable;"⟩ : MethodName) ∈ gU := gt_3 _ (List.mem_of_getElem? (i := 201) rfl) rfl
theorem q3_202 : Cond.lays "java/lang/IndexOutOfBoundsException" "java/lang/Throwable" "cause" "Ljava/lang/Throwable;" ∈ gU := gt_3 _ (List.mem_of_getElem? (i := 202) rfl) rfl
theorem q3_203 : Cond.lays "java/lang/IndexOutOfBoundsException" "java/lang/Throwable" "stackTrace" "[Ljava/lang/StackTraceElement;" ∈ gU := gt_3 _ (List.mem_of_getElem? (i := 203) rfl) rfl
theorem q3_204 : Cond.lays "java/lang/IndexOutOfBoundsException" "java/lang/Throwable" "suppressedExceptions" "Ljava/util/List;" ∈ gU := gt_3 _ (List.mem_of_getElem? (i := 204) rfl) rfl
theorem q3_205 : Cond.lays "java/lang/IndexOutOfBoundsException" "java/lang/Throwable" "detailMessage" "Ljava/lang/String;" ∈ gU := gt_3 _ (List.mem_of_getElem? (i := 205) rfl) rfl
theorem q3_206 : Cond.lays "java/lang/IndexOutOfBoundsException" "java/lang/Throwable" "backtrace" "Ljava/lang/Object;" ∈ gU := gt_3 _ (List.mem_of_getElem? (i := 206) rfl) rfl
theorem q3_208 : Cond.methodLink RX6 378 (⟨"java/lang/IndexOutOfBoundsException", "<init>", "(Ljava/lang/String;)V"⟩ : MethodName) ∈ gU := gt_3 _ (List.mem_of_getElem? (i := 208) rfl) rfl
theorem q3_209 : Cond.instanceMethod (⟨"java/lang/IndexOutOfBoundsException", "<init>", "(Ljava/lang/String;)V"⟩ : MethodName) ∈ gU := gt_3 _ (List.mem_of_getElem? (i := 209) rfl) rfl
theorem q3_210 : Cond.code (⟨"java/lang/IndexOutOfBoundsException", "<init>", "(Ljava/lang/String;)V"⟩ : MethodName) prog_14_method_2_code 2 none ∈ gU := gt_3 _ (List.mem_of_getElem? (i := 210) rfl) rfl
theorem q3_211 : Cond.methodLink "java/lang/IndexOutOfBoundsException" 7 (⟨"java/lang/RuntimeException", "<init>", "(Ljava/lang/String;)V"⟩ : MethodName) ∈ gU := gt_3 _ (List.mem_of_getElem? (i := 211) rfl) rfl
theorem q3_212 : Cond.lays "java/lang/IndexOutOfBoundsException" "java/lang/Throwable" "depth" "I" ∈ gU := gt_3 _ (List.mem_of_getElem? (i := 212) rfl) rfl
theorem q3_214 : Cond.methodLink RX6 70 yX0_canHavePoints ∈ gU := gt_3 _ (List.mem_of_getElem? (i := 214) rfl) rfl
theorem q3_215 : Cond.instanceMethod yX0_canHavePoints ∈ gU := gt_3 _ (List.mem_of_getElem? (i := 215) rfl) rfl
theorem q3_216 : Cond.selects RX0 yX0_canHavePoints yX0_canHavePoints ∈ gU := gt_3 _ (List.mem_of_getElem? (i := 216) rfl) rfl
theorem q3_217 : Cond.code yX0_canHavePoints cX0_canHavePoints 3 (some .boolean) ∈ gU := gt_3 _ (List.mem_of_getElem? (i := 217) rfl) rfl
theorem q3_218 : Cond.methodLink RX0 106 yX0_hasCapacity ∈ gU := gt_3 _ (List.mem_of_getElem? (i := 218) rfl) rfl
theorem q3_220 : Cond.instanceMethod yX0_hasCapacity ∈ gU := gt_3 _ (List.mem_of_getElem? (i := 220) rfl) rfl
theorem q3_221 : Cond.code yX0_hasCapacity cX0_hasCapacity 3 (some .boolean) ∈ gU := gt_3 _ (List.mem_of_getElem? (i := 221) rfl) rfl
theorem q3_222 : Cond.methodLink RX6 74 yX0_setPoints ∈ gU := gt_3 _ (List.mem_of_getElem? (i := 222) rfl) rfl
theorem q3_223 : Cond.instanceMethod yX0_setPoints ∈ gU := gt_3 _ (List.mem_of_getElem? (i := 223) rfl) rfl
theorem q3_224 : Cond.selects RX0 yX0_setPoints yX0_setPoints ∈ gU := gt_3 _ (List.mem_of_getElem? (i := 224) rfl) rfl
theorem q3_225 : Cond.code yX0_setPoints cX0_setPoints 4 (some .int) ∈ gU := gt_3 _ (List.mem_of_getElem? (i := 225) rfl) rfl
theorem q3_226 : Cond.methodLink RX0 124 yX0_addLoad ∈ gU := gt_3 _ (List.mem_of_getElem? (i := 226) rfl) rfl
theorem q3_228 : Cond.instanceMethod yX0_addLoad ∈ gU := gt_3 _ (List.mem_of_getElem? (i := 228) rfl) rfl
theorem q3_229 : Cond.code yX0_addLoad cX0_addLoad 3 none ∈ gU := gt_3 _ (List.mem_of_getElem? (i := 229) rfl) rfl
theorem q3_230 : Cond.methodLink RL 211 yL_changePriority ∈ gU := gt_3 _ (List.mem_of_getElem? (i := 230) rfl) rfl
theorem q3_231 : Cond.static yL_changePriority ∈ gU := gt_3 _ (List.mem_of_getElem? (i := 231) rfl) rfl
theorem q3_232 : Cond.codeWith yL_changePriority cL_changePriority 5 (some .int) [((0 : Nat), (10 : Nat), (13 : Nat), (20 : Nat)), ((0 : Nat), (10 : Nat), (17 : Nat), (13 : Nat))] ∈ gU := gt_3 _ (List.mem_of_getElem? (i := 232) rfl) rfl
theorem q3_233 : Cond.methodLink RL 22 yX6_changePriority ∈ gU := gt_3 _ (List.mem_of_getElem? (i := 233) rfl) rfl
theorem q3_234 : Cond.instanceMethod yX6_changePriority ∈ gU := gt_3 _ (List.mem_of_getElem? (i := 234) rfl) rfl
theorem q3_235 : Cond.selects RX6 yX6_changePriority yX6_changePriority ∈ gU := gt_3 _ (List.mem_of_getElem? (i := 235) rfl) rfl
theorem q3_236 : Cond.code yX6_changePriority cX6_changePriority 3 (some .int) ∈ gU := gt_3 _ (List.mem_of_getElem? (i := 236) rfl) rfl
theorem q3_237 : Cond.methodLink RX6 77 yX0_setPriority ∈ gU := gt_3 _ (List.mem_of_getElem? (i := 237) rfl) rfl
theorem q3_238 : Cond.instanceMethod yX0_setPriority ∈ gU := gt_3 _ (List.mem_of_getElem? (i := 238) rfl) rfl
theorem q3_239 : Cond.selects RX0 yX0_setPriority yX0_setPriority ∈ gU := gt_3 _ (List.mem_of_getElem? (i := 239) rfl) rfl
theorem q4_0 : Cond.code yX0_setPriority cX0_setPriority 4 (some .int) ∈ gU := gt_4 _ (List.mem_of_getElem? (i := 0) rfl) rfl
theorem q4_1 : Cond.methodLink RL 214 yL_need ∈ gU := gt_4 _ (List.mem_of_getElem? (i := 1) rfl) rfl
theorem q4_2 : Cond.static yL_need ∈ gU := gt_4 _ (List.mem_of_getElem? (i := 2) rfl) rfl
theorem q4_3 : Cond.codeWith yL_need cL_need 5 (some .int) [((0 : Nat), (10 : Nat), (13 : Nat), (20 : Nat)), ((0 : Nat), (10 : Nat), (17 : Nat), (13 : Nat)), ((0 : Nat), (10 : Nat), (21 : Nat), (15 : Nat))] ∈ gU := gt_4 _ (List.mem_of_getElem? (i := 3) rfl) rfl
theorem q4_4 : Cond.methodLink RL 25 yX6_need ∈ gU := gt_4 _ (List.mem_of_getElem? (i := 4) rfl) rfl
theorem q4_5 : Cond.instanceMethod yX6_need ∈ gU := gt_4 _ (List.mem_of_getElem? (i := 5) rfl) rfl
theorem q4_6 : Cond.selects RX6 yX6_need yX6_need ∈ gU := gt_4 _ (List.mem_of_getElem? (i := 6) rfl) rfl
theorem q4_7 : Cond.code yX6_need cX6_need 3 (some .int) ∈ gU := gt_4 _ (List.mem_of_getElem? (i := 7) rfl) rfl
theorem q4_8 : Cond.methodLink RX6 80 yX0_canNeed ∈ gU := gt_4 _ (List.mem_of_getElem? (i := 8) rfl) rfl
theorem q4_9 : Cond.instanceMethod yX0_canNeed ∈ gU := gt_4 _ (List.mem_of_getElem? (i := 9) rfl) rfl
theorem q4_10 : Cond.selects RX0 yX0_canNeed yX0_canNeed ∈ gU := gt_4 _ (List.mem_of_getElem? (i := 10) rfl) rfl
theorem q4_11 : Cond.code yX0_canNeed cX0_canNeed 3 (some .boolean) ∈ gU := gt_4 _ (List.mem_of_getElem? (i := 11) rfl) rfl
theorem q4_12 : Cond.methodLink RX0 109 yX0_needsDirectly ∈ gU := gt_4 _ (List.mem_of_getElem? (i := 12) rfl) rfl
theorem q4_13 : Cond.methodLink RX0 112 yX0_reachedFrom ∈ gU := gt_4 _ (List.mem_of_getElem? (i := 13) rfl) rfl
theorem q4_14 : Cond.methodLink RX6 83 yX0_addNeed ∈ gU := gt_4 _ (List.mem_of_getElem? (i := 14) rfl) rfl
theorem q4_15 : Cond.instanceMethod yX0_addNeed ∈ gU := gt_4 _ (List.mem_of_getElem? (i := 15) rfl) rfl
theorem q4_16 : Cond.selects RX0 yX0_addNeed yX0_addNeed ∈ gU := gt_4 _ (List.mem_of_getElem? (i := 16) rfl) rfl
theorem q4_17 : Cond.code yX0_addNeed cX0_addNeed 3 (some .int) ∈ gU := gt_4 _ (List.mem_of_getElem? (i := 17) rfl) rfl
theorem q4_18 : Cond.methodLink RX0 128 yJ6_bitCount_0f7a4 ∈ gU := gt_4 _ (List.mem_of_getElem? (i := 18) rfl) rfl
theorem q4_19 : Cond.methodLink RL 217 yL_release ∈ gU := gt_4 _ (List.mem_of_getElem? (i := 19) rfl) rfl
theorem q4_20 : Cond.static yL_release ∈ gU := gt_4 _ (List.mem_of_getElem? (i := 20) rfl) rfl
theorem q4_21 : Cond.codeWith yL_release cL_release 5 (some .int) [((0 : Nat), (10 : Nat), (13 : Nat), (20 : Nat)), ((0 : Nat), (10 : Nat), (17 : Nat), (15 : Nat))] ∈ gU := gt_4 _ (List.mem_of_getElem? (i := 21) rfl) rfl
theorem q4_22 : Cond.methodLink RL 28 yX6_release ∈ gU := gt_4 _ (List.mem_of_getElem? (i := 22) rfl) rfl
theorem q4_23 : Cond.instanceMethod yX6_release ∈ gU := gt_4 _ (List.mem_of_getElem? (i := 23) rfl) rfl
theorem q4_24 : Cond.selects RX6 yX6_release yX6_release ∈ gU := gt_4 _ (List.mem_of_getElem? (i := 24) rfl) rfl
theorem q4_25 : Cond.code yX6_release cX6_release 3 (some .int) ∈ gU := gt_4 _ (List.mem_of_getElem? (i := 25) rfl) rfl
theorem q4_26 : Cond.methodLink RX6 89 yX0_removeNeed ∈ gU := gt_4 _ (List.mem_of_getElem? (i := 26) rfl) rfl
theorem q4_27 : Cond.instanceMethod yX0_removeNeed ∈ gU := gt_4 _ (List.mem_of_getElem? (i := 27) rfl) rfl
theorem q4_28 : Cond.selects RX0 yX0_removeNeed yX0_removeNeed ∈ gU := gt_4 _ (List.mem_of_getElem? (i := 28) rfl) rfl
theorem q4_29 : Cond.code yX0_removeNeed cX0_removeNeed 3 (some .int) ∈ gU := gt_4 _ (List.mem_of_getElem? (i := 29) rfl) rfl
theorem q4_30 : Cond.methodLink RL 220 yL_assign ∈ gU := gt_4 _ (List.mem_of_getElem? (i := 30) rfl) rfl
theorem q4_31 : Cond.static yL_assign ∈ gU := gt_4 _ (List.mem_of_getElem? (i := 31) rfl) rfl
theorem q4_32 : Cond.codeWith yL_assign cL_assign 5 (some .int) [((0 : Nat), (10 : Nat), (13 : Nat), (20 : Nat)), ((0 : Nat), (10 : Nat), (17 : Nat), (15 : Nat))] ∈ gU := gt_4 _ (List.mem_of_getElem? (i := 32) rfl) rfl
theorem q4_33 : Cond.methodLink RL 31 yX6_assign ∈ gU := gt_4 _ (List.mem_of_getElem? (i := 33) rfl) rfl
theorem q4_34 : Cond.instanceMethod yX6_assign ∈ gU := gt_4 _ (List.mem_of_getElem? (i := 34) rfl) rfl
theorem q4_35 : Cond.selects RX6 yX6_assign yX6_assign ∈ gU := gt_4 _ (List.mem_of_getElem? (i := 35) rfl) rfl
theorem q4_36 : Cond.code yX6_assign cX6_assign 3 (some .int) ∈ gU := gt_4 _ (List.mem_of_getElem? (i := 36) rfl) rfl
theorem q4_37 : Cond.methodLink RX6 92 yX6_isOwner ∈ gU := gt_4 _ (List.mem_of_getElem? (i := 37) rfl) rfl
theorem q4_38 : Cond.static yX6_isOwner ∈ gU := gt_4 _ (List.mem_of_getElem? (i := 38) rfl) rfl
theorem q4_39 : Cond.code yX6_isOwner cX6_isOwner 1 (some .boolean) ∈ gU := gt_4 _ (List.mem_of_getElem? (i := 39) rfl) rfl
theorem q4_40 : Cond.methodLink RX6 95 yX0_canBeGivenTo ∈ gU := gt_4 _ (List.mem_of_getElem? (i := 40) rfl) rfl
theorem q4_41 : Cond.instanceMethod yX0_canBeGivenTo ∈ gU := gt_4 _ (List.mem_of_getElem? (i := 41) rfl) rfl
theorem q4_42 : Cond.selects RX0 yX0_canBeGivenTo yX0_canBeGivenTo ∈ gU := gt_4 _ (List.mem_of_getElem? (i := 42) rfl) rfl
theorem q4_43 : Cond.code yX0_canBeGivenTo cX0_canBeGivenTo 3 (some .boolean) ∈ gU := gt_4 _ (List.mem_of_getElem? (i := 43) rfl) rfl
theorem q4_44 : Cond.methodLink RX6 98 yX0_giveTo ∈ gU := gt_4 _ (List.mem_of_getElem? (i := 44) rfl) rfl
theorem q4_45 : Cond.instanceMethod yX0_giveTo ∈ gU := gt_4 _ (List.mem_of_getElem? (i := 45) rfl) rfl
theorem q4_46 : Cond.selects RX0 yX0_giveTo yX0_giveTo ∈ gU := gt_4 _ (List.mem_of_getElem? (i := 46) rfl) rfl
theorem q4_47 : Cond.code yX0_giveTo cX0_giveTo 3 (some .int) ∈ gU := gt_4 _ (List.mem_of_getElem? (i := 47) rfl) rfl
theorem q4_48 : Cond.methodLink RL 223 yL_unassign ∈ gU := gt_4 _ (List.mem_of_getElem? (i := 48) rfl) rfl
theorem q4_49 : Cond.static yL_unassign ∈ gU := gt_4 _ (List.mem_of_getElem? (i := 49) rfl) rfl
theorem q4_50 : Cond.codeWith yL_unassign cL_unassign 4 (some .int) [((0 : Nat), (9 : Nat), (12 : Nat), (20 : Nat)), ((0 : Nat), (9 : Nat), (15 : Nat), (15 : Nat))] ∈ gU := gt_4 _ (List.mem_of_getElem? (i := 50) rfl) rfl
theorem q4_51 : Cond.methodLink RL 34 yX6_unassign ∈ gU := gt_4 _ (List.mem_of_getElem? (i := 51) rfl) rfl
theorem q4_52 : Cond.instanceMethod yX6_unassign ∈ gU := gt_4 _ (List.mem_of_getElem? (i := 52) rfl) rfl
theorem q4_53 : Cond.selects RX6 yX6_unassign yX6_unassign ∈ gU := gt_4 _ (List.mem_of_getElem? (i := 53) rfl) rfl
theorem q4_54 : Cond.code yX6_unassign cX6_unassign 2 (some .int) ∈ gU := gt_4 _ (List.mem_of_getElem? (i := 54) rfl) rfl
theorem q4_55 : Cond.methodLink RX6 108 yX0_takeFromOwner ∈ gU := gt_4 _ (List.mem_of_getElem? (i := 55) rfl) rfl
theorem q4_56 : Cond.instanceMethod yX0_takeFromOwner ∈ gU := gt_4 _ (List.mem_of_getElem? (i := 56) rfl) rfl
theorem q4_57 : Cond.selects RX0 yX0_takeFromOwner yX0_takeFromOwner ∈ gU := gt_4 _ (List.mem_of_getElem? (i := 57) rfl) rfl
theorem q4_58 : Cond.code yX0_takeFromOwner cX0_takeFromOwner 3 (some .int) ∈ gU := gt_4 _ (List.mem_of_getElem? (i := 58) rfl) rfl
theorem q4_59 : Cond.methodLink RL 227 yL_changeCapacity ∈ gU := gt_4 _ (List.mem_of_getElem? (i := 59) rfl) rfl
theorem q4_60 : Cond.static yL_changeCapacity ∈ gU := gt_4 _ (List.mem_of_getElem? (i := 60) rfl) rfl
theorem q4_61 : Cond.codeWith yL_changeCapacity cL_changeCapacity 5 (some .int) [((0 : Nat), (10 : Nat), (13 : Nat), (20 : Nat)), ((0 : Nat), (10 : Nat), (17 : Nat), (13 : Nat)), ((0 : Nat), (10 : Nat), (21 : Nat), (15 : Nat))] ∈ gU := gt_4 _ (List.mem_of_getElem? (i := 61) rfl) rfl
theorem q4_62 : Cond.methodLink RL 38 yX6_changeCapacity ∈ gU := gt_4 _ (List.mem_of_getElem? (i := 62) rfl) rfl
theorem q4_63 : Cond.instanceMethod yX6_changeCapacity ∈ gU := gt_4 _ (List.mem_of_getElem? (i := 63) rfl) rfl
theorem q4_64 : Cond.selects RX6 yX6_changeCapacity yX6_changeCapacity ∈ gU := gt_4 _ (List.mem_of_getElem? (i := 64) rfl) rfl
theorem q4_65 : Cond.code yX6_changeCapacity cX6_changeCapacity 3 (some .int) ∈ gU := gt_4 _ (List.mem_of_getElem? (i := 65) rfl) rfl
theorem q4_66 : Cond.methodLink RX6 115 yX0_setCapacity ∈ gU := gt_4 _ (List.mem_of_getElem? (i := 66) rfl) rfl
theorem q4_67 : Cond.instanceMethod yX0_setCapacity ∈ gU := gt_4 _ (List.mem_of_getElem? (i := 67) rfl) rfl
theorem q4_68 : Cond.selects RX0 yX0_setCapacity yX0_setCapacity ∈ gU := gt_4 _ (List.mem_of_getElem? (i := 68) rfl) rfl
theorem q4_69 : Cond.code yX0_setCapacity cX0_setCapacity 4 (some .int) ∈ gU := gt_4 _ (List.mem_of_getElem? (i := 69) rfl) rfl
theorem q4_70 : Cond.methodLink RL 230 yL_plan ∈ gU := gt_4 _ (List.mem_of_getElem? (i := 70) rfl) rfl
theorem q4_71 : Cond.static yL_plan ∈ gU := gt_4 _ (List.mem_of_getElem? (i := 71) rfl) rfl
theorem q4_72 : Cond.codeWith yL_plan cL_plan 5 (some .int) [((0 : Nat), (10 : Nat), (13 : Nat), (20 : Nat)), ((0 : Nat), (10 : Nat), (17 : Nat), (15 : Nat))] ∈ gU := gt_4 _ (List.mem_of_getElem? (i := 72) rfl) rfl
theorem q4_73 : Cond.methodLink RL 41 yX6_plan ∈ gU := gt_4 _ (List.mem_of_getElem? (i := 73) rfl) rfl
theorem q4_74 : Cond.instanceMethod yX6_plan ∈ gU := gt_4 _ (List.mem_of_getElem? (i := 74) rfl) rfl
theorem q4_75 : Cond.selects RX6 yX6_plan yX6_plan ∈ gU := gt_4 _ (List.mem_of_getElem? (i := 75) rfl) rfl
theorem q4_76 : Cond.code yX6_plan cX6_plan 3 (some .int) ∈ gU := gt_4 _ (List.mem_of_getElem? (i := 76) rfl) rfl
theorem q4_77 : Cond.methodLink RX6 118 yX6_isMilestone ∈ gU := gt_4 _ (List.mem_of_getElem? (i := 77) rfl) rfl
theorem q4_78 : Cond.static yX6_isMilestone ∈ gU := gt_4 _ (List.mem_of_getElem? (i := 78) rfl) rfl
theorem q4_79 : Cond.code yX6_isMilestone cX6_isMilestone 1 (some .boolean) ∈ gU := gt_4 _ (List.mem_of_getElem? (i := 79) rfl) rfl
theorem q4_80 : Cond.methodLink RX6 121 yX0_isUnfinished ∈ gU := gt_4 _ (List.mem_of_getElem? (i := 80) rfl) rfl
theorem q4_81 : Cond.methodLink RL 233 yL_unplan ∈ gU := gt_4 _ (List.mem_of_getElem? (i := 81) rfl) rfl
theorem q4_82 : Cond.static yL_unplan ∈ gU := gt_4 _ (List.mem_of_getElem? (i := 82) rfl) rfl
theorem q4_83 : Cond.codeWith yL_unplan cL_unplan 4 (some .int) [((0 : Nat), (9 : Nat), (12 : Nat), (20 : Nat)), ((0 : Nat), (9 : Nat), (15 : Nat), (15 : Nat))] ∈ gU := gt_4 _ (List.mem_of_getElem? (i := 83) rfl) rfl
theorem q4_84 : Cond.methodLink RL 44 yX6_unplan ∈ gU := gt_4 _ (List.mem_of_getElem? (i := 84) rfl) rfl
theorem q4_85 : Cond.instanceMethod yX6_unplan ∈ gU := gt_4 _ (List.mem_of_getElem? (i := 85) rfl) rfl
theorem q4_86 : Cond.selects RX6 yX6_unplan yX6_unplan ∈ gU := gt_4 _ (List.mem_of_getElem? (i := 86) rfl) rfl
theorem q4_87 : Cond.code yX6_unplan cX6_unplan 2 (some .int) ∈ gU := gt_4 _ (List.mem_of_getElem? (i := 87) rfl) rfl
theorem q4_88 : Cond.methodLink RX6 133 yX0_takeFromMilestone ∈ gU := gt_4 _ (List.mem_of_getElem? (i := 88) rfl) rfl
theorem q4_89 : Cond.instanceMethod yX0_takeFromMilestone ∈ gU := gt_4 _ (List.mem_of_getElem? (i := 89) rfl) rfl
theorem q4_90 : Cond.selects RX0 yX0_takeFromMilestone yX0_takeFromMilestone ∈ gU := gt_4 _ (List.mem_of_getElem? (i := 90) rfl) rfl
theorem q4_91 : Cond.code yX0_takeFromMilestone cX0_takeFromMilestone 3 (some .int) ∈ gU := gt_4 _ (List.mem_of_getElem? (i := 91) rfl) rfl
theorem q4_92 : Cond.methodLink RL 236 yL_changeDate ∈ gU := gt_4 _ (List.mem_of_getElem? (i := 92) rfl) rfl
theorem q4_93 : Cond.static yL_changeDate ∈ gU := gt_4 _ (List.mem_of_getElem? (i := 93) rfl) rfl
theorem q4_94 : Cond.codeWith yL_changeDate cL_changeDate 5 (some .int) [((0 : Nat), (10 : Nat), (13 : Nat), (20 : Nat)), ((0 : Nat), (10 : Nat), (17 : Nat), (13 : Nat))] ∈ gU := gt_4 _ (List.mem_of_getElem? (i := 94) rfl) rfl
theorem q4_95 : Cond.methodLink RL 47 yX6_changeDate ∈ gU := gt_4 _ (List.mem_of_getElem? (i := 95) rfl) rfl
theorem q4_96 : Cond.instanceMethod yX6_changeDate ∈ gU := gt_4 _ (List.mem_of_getElem? (i := 96) rfl) rfl
theorem q4_97 : Cond.selects RX6 yX6_changeDate yX6_changeDate ∈ gU := gt_4 _ (List.mem_of_getElem? (i := 97) rfl) rfl
theorem q4_98 : Cond.code yX6_changeDate cX6_changeDate 3 (some .int) ∈ gU := gt_4 _ (List.mem_of_getElem? (i := 98) rfl) rfl
theorem q4_99 : Cond.methodLink RX6 136 yX0_setDate ∈ gU := gt_4 _ (List.mem_of_getElem? (i := 99) rfl) rfl
theorem q4_100 : Cond.instanceMethod yX0_setDate ∈ gU := gt_4 _ (List.mem_of_getElem? (i := 100) rfl) rfl
theorem q4_101 : Cond.selects RX0 yX0_setDate yX0_setDate ∈ gU := gt_4 _ (List.mem_of_getElem? (i := 101) rfl) rfl
theorem q4_102 : Cond.code yX0_setDate cX0_setDate 4 (some .int) ∈ gU := gt_4 _ (List.mem_of_getElem? (i := 102) rfl) rfl
theorem q4_103 : Cond.methodLink RL 239 yL_endDays ∈ gU := gt_4 _ (List.mem_of_getElem? (i := 103) rfl) rfl
theorem q4_104 : Cond.static yL_endDays ∈ gU := gt_4 _ (List.mem_of_getElem? (i := 104) rfl) rfl
theorem q4_105 : Cond.codeWith yL_endDays cL_endDays 4 (some .int) [((0 : Nat), (9 : Nat), (12 : Nat), (13 : Nat)), ((0 : Nat), (9 : Nat), (15 : Nat), (15 : Nat))] ∈ gU := gt_4 _ (List.mem_of_getElem? (i := 105) rfl) rfl
theorem q4_106 : Cond.methodLink RL 50 yX6_endDays ∈ gU := gt_4 _ (List.mem_of_getElem? (i := 106) rfl) rfl
theorem q4_107 : Cond.instanceMethod yX6_endDays ∈ gU := gt_4 _ (List.mem_of_getElem? (i := 107) rfl) rfl
theorem q4_108 : Cond.selects RX6 yX6_endDays yX6_endDays ∈ gU := gt_4 _ (List.mem_of_getElem? (i := 108) rfl) rfl
theorem q4_109 : Cond.code yX6_endDays cX6_endDays 2 (some .int) ∈ gU := gt_4 _ (List.mem_of_getElem? (i := 109) rfl) rfl
theorem q4_110 : Cond.methodLink RX6 139 yX0_canPass ∈ gU := gt_4 _ (List.mem_of_getElem? (i := 110) rfl) rfl
theorem q4_111 : Cond.instanceMethod yX0_canPass ∈ gU := gt_4 _ (List.mem_of_getElem? (i := 111) rfl) rfl
theorem q4_112 : Cond.selects RX0 yX0_canPass yX0_canPass ∈ gU := gt_4 _ (List.mem_of_getElem? (i := 112) rfl) rfl
theorem q4_113 : Cond.code yX0_canPass cX0_canPass 2 (some .boolean) ∈ gU := gt_4 _ (List.mem_of_getElem? (i := 113) rfl) rfl
theorem q4_114 : Cond.methodLink RX6 142 yX0_pass ∈ gU := gt_4 _ (List.mem_of_getElem? (i := 114) rfl) rfl
theorem q4_115 : Cond.instanceMethod yX0_pass ∈ gU := gt_4 _ (List.mem_of_getElem? (i := 115) rfl) rfl
theorem q4_116 : Cond.selects RX0 yX0_pass yX0_pass ∈ gU := gt_4 _ (List.mem_of_getElem? (i := 116) rfl) rfl
theorem q4_117 : Cond.code yX0_pass cX0_pass 3 (some .int) ∈ gU := gt_4 _ (List.mem_of_getElem? (i := 117) rfl) rfl
theorem q4_118 : Cond.methodLink RL 242 yL_start ∈ gU := gt_4 _ (List.mem_of_getElem? (i := 118) rfl) rfl
theorem q4_119 : Cond.static yL_start ∈ gU := gt_4 _ (List.mem_of_getElem? (i := 119) rfl) rfl
theorem q4_120 : Cond.codeWith yL_start cL_start 3 (some .int) [((0 : Nat), (5 : Nat), (8 : Nat), (20 : Nat)), ((0 : Nat), (5 : Nat), (11 : Nat), (15 : Nat))] ∈ gU := gt_4 _ (List.mem_of_getElem? (i := 120) rfl) rfl
theorem q4_121 : Cond.methodLink RL 53 yX6_start ∈ gU := gt_4 _ (List.mem_of_getElem? (i := 121) rfl) rfl
theorem q4_122 : Cond.instanceMethod yX6_start ∈ gU := gt_4 _ (List.mem_of_getElem? (i := 122) rfl) rfl
theorem q4_123 : Cond.selects RX6 yX6_start yX6_start ∈ gU := gt_4 _ (List.mem_of_getElem? (i := 123) rfl) rfl
theorem q4_124 : Cond.code yX6_start cX6_start 2 none ∈ gU := gt_4 _ (List.mem_of_getElem? (i := 124) rfl) rfl
theorem q4_125 : Cond.methodLink RX6 145 yX0_canStart ∈ gU := gt_4 _ (List.mem_of_getElem? (i := 125) rfl) rfl
theorem q4_126 : Cond.instanceMethod yX0_canStart ∈ gU := gt_4 _ (List.mem_of_getElem? (i := 126) rfl) rfl
theorem q4_127 : Cond.selects RX0 yX0_canStart yX0_canStart ∈ gU := gt_4 _ (List.mem_of_getElem? (i := 127) rfl) rfl
theorem q4_128 : Cond.code yX0_canStart cX0_canStart 2 (some .boolean) ∈ gU := gt_4 _ (List.mem_of_getElem? (i := 128) rfl) rfl
theorem q4_129 : Cond.methodLink RL 246 yL_submit ∈ gU := gt_4 _ (List.mem_of_getElem? (i := 129) rfl) rfl
theorem q4_130 : Cond.static yL_submit ∈ gU := gt_4 _ (List.mem_of_getElem? (i := 130) rfl) rfl
theorem q4_131 : Cond.codeWith yL_submit cL_submit 3 (some .int) [((0 : Nat), (5 : Nat), (8 : Nat), (20 : Nat)), ((0 : Nat), (5 : Nat), (11 : Nat), (15 : Nat))] ∈ gU := gt_4 _ (List.mem_of_getElem? (i := 131) rfl) rfl
theorem q4_132 : Cond.methodLink RL 57 yX6_submit ∈ gU := gt_4 _ (List.mem_of_getElem? (i := 132) rfl) rfl
theorem q4_133 : Cond.instanceMethod yX6_submit ∈ gU := gt_4 _ (List.mem_of_getElem? (i := 133) rfl) rfl
theorem q4_134 : Cond.selects RX6 yX6_submit yX6_submit ∈ gU := gt_4 _ (List.mem_of_getElem? (i := 134) rfl) rfl
theorem q4_135 : Cond.code yX6_submit cX6_submit 2 none ∈ gU := gt_4 _ (List.mem_of_getElem? (i := 135) rfl) rfl
theorem q4_136 : Cond.methodLink RL 249 yL_sendBack ∈ gU := gt_4 _ (List.mem_of_getElem? (i := 136) rfl) rfl
theorem q4_137 : Cond.static yL_sendBack ∈ gU := gt_4 _ (List.mem_of_getElem? (i := 137) rfl) rfl
theorem q4_138 : Cond.codeWith yL_sendBack cL_sendBack 4 (some .int) [((0 : Nat), (9 : Nat), (12 : Nat), (20 : Nat)), ((0 : Nat), (9 : Nat), (15 : Nat), (15 : Nat))] ∈ gU := gt_4 _ (List.mem_of_getElem? (i := 138) rfl) rfl
theorem q4_139 : Cond.methodLink RL 60 yX6_sendBack ∈ gU := gt_4 _ (List.mem_of_getElem? (i := 139) rfl) rfl
theorem q4_140 : Cond.instanceMethod yX6_sendBack ∈ gU := gt_4 _ (List.mem_of_getElem? (i := 140) rfl) rfl
theorem q4_141 : Cond.selects RX6 yX6_sendBack yX6_sendBack ∈ gU := gt_4 _ (List.mem_of_getElem? (i := 141) rfl) rfl
theorem q4_142 : Cond.code yX6_sendBack cX6_sendBack 2 (some .int) ∈ gU := gt_4 _ (List.mem_of_getElem? (i := 142) rfl) rfl
theorem q4_143 : Cond.methodLink RX6 148 yX0_putBack ∈ gU := gt_4 _ (List.mem_of_getElem? (i := 143) rfl) rfl
theorem q4_144 : Cond.instanceMethod yX0_putBack ∈ gU := gt_4 _ (List.mem_of_getElem? (i := 144) rfl) rfl
theorem q4_145 : Cond.selects RX0 yX0_putBack yX0_putBack ∈ gU := gt_4 _ (List.mem_of_getElem? (i := 145) rfl) rfl
theorem q4_146 : Cond.code yX0_putBack cX0_putBack 2 (some .int) ∈ gU := gt_4 _ (List.mem_of_getElem? (i := 146) rfl) rfl
theorem q4_147 : Cond.methodLink RL 252 yL_close ∈ gU := gt_4 _ (List.mem_of_getElem? (i := 147) rfl) rfl
theorem q4_148 : Cond.static yL_close ∈ gU := gt_4 _ (List.mem_of_getElem? (i := 148) rfl) rfl
theorem q4_149 : Cond.codeWith yL_close cL_close 4 (some .int) [((0 : Nat), (9 : Nat), (12 : Nat), (20 : Nat)), ((0 : Nat), (9 : Nat), (15 : Nat), (15 : Nat))] ∈ gU := gt_4 _ (List.mem_of_getElem? (i := 149) rfl) rfl
theorem q4_150 : Cond.methodLink RL 63 yX6_close ∈ gU := gt_4 _ (List.mem_of_getElem? (i := 150) rfl) rfl
theorem q4_151 : Cond.instanceMethod yX6_close ∈ gU := gt_4 _ (List.mem_of_getElem? (i := 151) rfl) rfl
theorem q4_152 : Cond.selects RX6 yX6_close yX6_close ∈ gU := gt_4 _ (List.mem_of_getElem? (i := 152) rfl) rfl
theorem q4_153 : Cond.code yX6_close cX6_close 3 (some .int) ∈ gU := gt_4 _ (List.mem_of_getElem? (i := 153) rfl) rfl
theorem q4_154 : Cond.methodLink RX6 151 yX0_canClose ∈ gU := gt_4 _ (List.mem_of_getElem? (i := 154) rfl) rfl
theorem q4_155 : Cond.instanceMethod yX0_canClose ∈ gU := gt_4 _ (List.mem_of_getElem? (i := 155) rfl) rfl
theorem q4_156 : Cond.selects RX0 yX0_canClose yX0_canClose ∈ gU := gt_4 _ (List.mem_of_getElem? (i := 156) rfl) rfl
theorem q4_157 : Cond.code yX0_canClose cX0_canClose 2 (some .boolean) ∈ gU := gt_4 _ (List.mem_of_getElem? (i := 157) rfl) rfl
theorem q4_158 : Cond.methodLink RX0 115 yX0_blockerSet ∈ gU := gt_4 _ (List.mem_of_getElem? (i := 158) rfl) rfl
theorem q4_159 : Cond.methodLink RX6 154 yX0_blockedSet ∈ gU := gt_4 _ (List.mem_of_getElem? (i := 159) rfl) rfl
theorem q4_160 : Cond.methodLink RX6 158 yX0_finish ∈ gU := gt_4 _ (List.mem_of_getElem? (i := 160) rfl) rfl
theorem q4_161 : Cond.instanceMethod yX0_finish ∈ gU := gt_4 _ (List.mem_of_getElem? (i := 161) rfl) rfl
theorem q4_162 : Cond.selects RX0 yX0_finish yX0_finish ∈ gU := gt_4 _ (List.mem_of_getElem? (i := 162) rfl) rfl
theorem q4_163 : Cond.code yX0_finish cX0_finish 2 none ∈ gU := gt_4 _ (List.mem_of_getElem? (i := 163) rfl) rfl
theorem q4_164 : Cond.methodLink RX0 133 yX0_leaveOff ∈ gU := gt_4 _ (List.mem_of_getElem? (i := 164) rfl) rfl
theorem q4_165 : Cond.instanceMethod yX0_leaveOff ∈ gU := gt_4 _ (List.mem_of_getElem? (i := 165) rfl) rfl
theorem q4_166 : Cond.selects RX0 yX0_leaveOff yX0_leaveOff ∈ gU := gt_4 _ (List.mem_of_getElem? (i := 166) rfl) rfl
theorem q4_167 : Cond.code yX0_leaveOff cX0_leaveOff 3 none ∈ gU := gt_4 _ (List.mem_of_getElem? (i := 167) rfl) rfl
theorem q4_168 : Cond.methodLink RL 255 yL_reopen ∈ gU := gt_4 _ (List.mem_of_getElem? (i := 168) rfl) rfl
theorem q4_169 : Cond.static yL_reopen ∈ gU := gt_4 _ (List.mem_of_getElem? (i := 169) rfl) rfl
theorem q4_170 : Cond.codeWith yL_reopen cL_reopen 4 (some .int) [((0 : Nat), (9 : Nat), (12 : Nat), (20 : Nat)), ((0 : Nat), (9 : Nat), (15 : Nat), (15 : Nat))] ∈ gU := gt_4 _ (List.mem_of_getElem? (i := 170) rfl) rfl
theorem q4_171 : Cond.methodLink RL 66 yX6_reopen ∈ gU := gt_4 _ (List.mem_of_getElem? (i := 171) rfl) rfl
theorem q4_172 : Cond.instanceMethod yX6_reopen ∈ gU := gt_4 _ (List.mem_of_getElem? (i := 172) rfl) rfl
theorem q4_173 : Cond.selects RX6 yX6_reopen yX6_reopen ∈ gU := gt_4 _ (List.mem_of_getElem? (i := 173) rfl) rfl
theorem q4_174 : Cond.code yX6_reopen cX6_reopen 3 (some .int) ∈ gU := gt_4 _ (List.mem_of_getElem? (i := 174) rfl) rfl
theorem q4_175 : Cond.methodLink RX6 167 yX0_canReopen ∈ gU := gt_4 _ (List.mem_of_getElem? (i := 175) rfl) rfl
theorem q4_176 : Cond.instanceMethod yX0_canReopen ∈ gU := gt_4 _ (List.mem_of_getElem? (i := 176) rfl) rfl
theorem q4_177 : Cond.selects RX0 yX0_canReopen yX0_canReopen ∈ gU := gt_4 _ (List.mem_of_getElem? (i := 177) rfl) rfl
theorem q4_178 : Cond.code yX0_canReopen cX0_canReopen 2 (some .boolean) ∈ gU := gt_4 _ (List.mem_of_getElem? (i := 178) rfl) rfl
theorem q4_179 : Cond.methodLink RX0 118 yX0_thoseThatNeed ∈ gU := gt_4 _ (List.mem_of_getElem? (i := 179) rfl) rfl
theorem q4_180 : Cond.instanceMethod yX0_thoseThatNeed ∈ gU := gt_4 _ (List.mem_of_getElem? (i := 180) rfl) rfl
theorem q4_181 : Cond.selects RX0 yX0_thoseThatNeed yX0_thoseThatNeed ∈ gU := gt_4 _ (List.mem_of_getElem? (i := 181) rfl) rfl
theorem q4_182 : Cond.code yX0_thoseThatNeed cX0_thoseThatNeed 2 (some .int) ∈ gU := gt_4 _ (List.mem_of_getElem? (i := 182) rfl) rfl
theorem q4_183 : Cond.methodLink RX0 121 yX0_inState ∈ gU := gt_4 _ (List.mem_of_getElem? (i := 183) rfl) rfl
theorem q4_184 : Cond.methodLink RX6 170 yX0_openAgain ∈ gU := gt_4 _ (List.mem_of_getElem? (i := 184) rfl) rfl
theorem q4_185 : Cond.instanceMethod yX0_openAgain ∈ gU := gt_4 _ (List.mem_of_getElem? (i := 185) rfl) rfl
theorem q4_186 : Cond.selects RX0 yX0_openAgain yX0_openAgain ∈ gU := gt_4 _ (List.mem_of_getElem? (i := 186) rfl) rfl
theorem q4_187 : Cond.code yX0_openAgain cX0_openAgain 2 none ∈ gU := gt_4 _ (List.mem_of_getElem? (i := 187) rfl) rfl
theorem q4_188 : Cond.methodLink RL 258 yL_drop ∈ gU := gt_4 _ (List.mem_of_getElem? (i := 188) rfl) rfl
theorem q4_189 : Cond.static yL_drop ∈ gU := gt_4 _ (List.mem_of_getElem? (i := 189) rfl) rfl
theorem q4_190 : Cond.codeWith yL_drop cL_drop 4 (some .int) [((0 : Nat), (9 : Nat), (12 : Nat), (20 : Nat)), ((0 : Nat), (9 : Nat), (15 : Nat), (15 : Nat))] ∈ gU := gt_4 _ (List.mem_of_getElem? (i := 190) rfl) rfl
theorem q4_191 : Cond.methodLink RL 69 yX6_drop ∈ gU := gt_4 _ (List.mem_of_getElem? (i := 191) rfl) rfl
theorem q4_192 : Cond.instanceMethod yX6_drop ∈ gU := gt_4 _ (List.mem_of_getElem? (i := 192) rfl) rfl
theorem q4_193 : Cond.selects RX6 yX6_drop yX6_drop ∈ gU := gt_4 _ (List.mem_of_getElem? (i := 193) rfl) rfl
theorem q4_194 : Cond.code yX6_drop cX6_drop 3 (some .int) ∈ gU := gt_4 _ (List.mem_of_getElem? (i := 194) rfl) rfl
theorem q4_195 : Cond.methodLink RX6 173 yX0_leaveOff ∈ gU := gt_4 _ (List.mem_of_getElem? (i := 195) rfl) rfl
theorem q4_196 : Cond.methodLink RL 261 yL_append ∈ gU := gt_4 _ (List.mem_of_getElem? (i := 196) rfl) rfl
theorem q4_197 : Cond.static yL_append ∈ gU := gt_4 _ (List.mem_of_getElem? (i := 197) rfl) rfl
theorem q4_198 : Cond.codeWith yL_append cL_append 4 (some .int) [((0 : Nat), (9 : Nat), (12 : Nat), (13 : Nat)), ((0 : Nat), (9 : Nat), (15 : Nat), (15 : Nat))] ∈ gU := gt_4 _ (List.mem_of_getElem? (i := 198) rfl) rfl
theorem q4_199 : Cond.methodLink RL 72 yX6_append ∈ gU := gt_4 _ (List.mem_of_getElem? (i := 199) rfl) rfl
theorem q4_200 : Cond.instanceMethod yX6_append ∈ gU := gt_4 _ (List.mem_of_getElem? (i := 200) rfl) rfl
theorem q4_201 : Cond.selects RX6 yX6_append yX6_append ∈ gU := gt_4 _ (List.mem_of_getElem? (i := 201) rfl) rfl
theorem q4_202 : Cond.code yX6_append cX6_append 2 (some .int) ∈ gU := gt_4 _ (List.mem_of_getElem? (i := 202) rfl) rfl
theorem q4_203 : Cond.methodLink RX6 177 yX4_hasRoom ∈ gU := gt_4 _ (List.mem_of_getElem? (i := 203) rfl) rfl
theorem q4_204 : Cond.instanceMethod yX4_hasRoom ∈ gU := gt_4 _ (List.mem_of_getElem? (i := 204) rfl) rfl
theorem q4_205 : Cond.selects RX4 yX4_hasRoom yX4_hasRoom ∈ gU := gt_4 _ (List.mem_of_getElem? (i := 205) rfl) rfl
theorem q4_206 : Cond.code yX4_hasRoom cX4_hasRoom 1 (some .boolean) ∈ gU := gt_4 _ (List.mem_of_getElem? (i := 206) rfl) rfl
theorem q4_207 : Cond.methodLink RX6 178 yX4_add ∈ gU := gt_4 _ (List.mem_of_getElem? (i := 207) rfl) rfl
theorem q4_208 : Cond.instanceMethod yX4_add ∈ gU := gt_4 _ (List.mem_of_getElem? (i := 208) rfl) rfl
theorem q4_209 : Cond.selects RX4 yX4_add yX4_add ∈ gU := gt_4 _ (List.mem_of_getElem? (i := 209) rfl) rfl
theorem q4_210 : Cond.code yX4_add cX4_add 2 (some .int) ∈ gU := gt_4 _ (List.mem_of_getElem? (i := 210) rfl) rfl
theorem q4_211 : Cond.methodLink RL 272 yL_follow ∈ gU := gt_4 _ (List.mem_of_getElem? (i := 211) rfl) rfl
theorem q4_212 : Cond.static yL_follow ∈ gU := gt_4 _ (List.mem_of_getElem? (i := 212) rfl) rfl
theorem q4_213 : Cond.codeWith yL_follow cL_follow 3 (some .int) [((0 : Nat), (8 : Nat), (11 : Nat), (13 : Nat)), ((0 : Nat), (8 : Nat), (14 : Nat), (15 : Nat))] ∈ gU := gt_4 _ (List.mem_of_getElem? (i := 213) rfl) rfl
theorem q4_214 : Cond.methodLink RL 75 yX6_follow ∈ gU := gt_4 _ (List.mem_of_getElem? (i := 214) rfl) rfl
theorem q4_215 : Cond.instanceMethod yX6_follow ∈ gU := gt_4 _ (List.mem_of_getElem? (i := 215) rfl) rfl
theorem q4_216 : Cond.selects RX6 yX6_follow yX6_follow ∈ gU := gt_4 _ (List.mem_of_getElem? (i := 216) rfl) rfl
theorem q4_217 : Cond.code yX6_follow cX6_follow 2 (some .int) ∈ gU := gt_4 _ (List.mem_of_getElem? (i := 217) rfl) rfl
theorem q4_218 : Cond.methodLink RX6 188 yX4_tellsOrders ∈ gU := gt_4 _ (List.mem_of_getElem? (i := 218) rfl) rfl
theorem q4_219 : Cond.methodLink RX6 191 yX0_copyFrom ∈ gU := gt_4 _ (List.mem_of_getElem? (i := 219) rfl) rfl
theorem q4_220 : Cond.methodLink RX6 194 yX4_followOn ∈ gU := gt_4 _ (List.mem_of_getElem? (i := 220) rfl) rfl
theorem q4_221 : Cond.instanceMethod yX4_followOn ∈ gU := gt_4 _ (List.mem_of_getElem? (i := 221) rfl) rfl
theorem q4_222 : Cond.selects RX4 yX4_followOn yX4_followOn ∈ gU := gt_4 _ (List.mem_of_getElem? (i := 222) rfl) rfl
theorem q4_223 : Cond.code yX4_followOn cX4_followOn 3 (some .int) ∈ gU := gt_4 _ (List.mem_of_getElem? (i := 223) rfl) rfl
theorem q4_224 : Cond.methodLink RX4 73 yX2_carryOut ∈ gU := gt_4 _ (List.mem_of_getElem? (i := 224) rfl) rfl
theorem q4_225 : Cond.static yX2_carryOut ∈ gU := gt_4 _ (List.mem_of_getElem? (i := 225) rfl) rfl
theorem q4_226 : Cond.code yX2_carryOut cX2_carryOut 4 (some .boolean) ∈ gU := gt_4 _ (List.mem_of_getElem? (i := 226) rfl) rfl
theorem q4_227 : Cond.methodLink RX2 9 yX2_openIfPossible ∈ gU := gt_4 _ (List.mem_of_getElem? (i := 227) rfl) rfl
theorem q4_228 : Cond.static yX2_openIfPossible ∈ gU := gt_4 _ (List.mem_of_getElem? (i := 228) rfl) rfl
theorem q4_229 : Cond.code yX2_openIfPossible cX2_openIfPossible 4 (some .boolean) ∈ gU := gt_4 _ (List.mem_of_getElem? (i := 229) rfl) rfl
theorem q4_230 : Cond.methodLink RX2 34 yX0_hasRoom ∈ gU := gt_4 _ (List.mem_of_getElem? (i := 230) rfl) rfl
theorem q4_231 : Cond.methodLink RX2 40 yX0_addTicket ∈ gU := gt_4 _ (List.mem_of_getElem? (i := 231) rfl) rfl
theorem q4_232 : Cond.methodLink RX2 15 yX2_needIfPossible ∈ gU := gt_4 _ (List.mem_of_getElem? (i := 232) rfl) rfl
theorem q4_233 : Cond.static yX2_needIfPossible ∈ gU := gt_4 _ (List.mem_of_getElem? (i := 233) rfl) rfl
theorem q4_234 : Cond.code yX2_needIfPossible cX2_needIfPossible 4 (some .boolean) ∈ gU := gt_4 _ (List.mem_of_getElem? (i := 234) rfl) rfl
theorem q4_235 : Cond.methodLink RX2 44 yX0_hasTicket ∈ gU := gt_4 _ (List.mem_of_getElem? (i := 235) rfl) rfl
theorem q4_236 : Cond.methodLink RX2 48 yX0_canNeed ∈ gU := gt_4 _ (List.mem_of_getElem? (i := 236) rfl) rfl
theorem q4_237 : Cond.methodLink RX2 52 yX0_addNeed ∈ gU := gt_4 _ (List.mem_of_getElem? (i := 237) rfl) rfl
theorem q4_238 : Cond.methodLink RX2 18 yX2_giveIfPossible ∈ gU := gt_4 _ (List.mem_of_getElem? (i := 238) rfl) rfl
theorem q4_239 : Cond.static yX2_giveIfPossible ∈ gU := gt_4 _ (List.mem_of_getElem? (i := 239) rfl) rfl
theorem q5_0 : Cond.code yX2_giveIfPossible cX2_giveIfPossible 4 (some .boolean) ∈ gU := gt_5 _ (List.mem_of_getElem? (i := 0) rfl) rfl
theorem q5_2 : Cond.methodLink RX2 58 yX0_canBeGivenTo ∈ gU := gt_5 _ (List.mem_of_getElem? (i := 2) rfl) rfl
theorem q5_3 : Cond.methodLink RX2 61 yX0_giveTo ∈ gU := gt_5 _ (List.mem_of_getElem? (i := 3) rfl) rfl
theorem q5_4 : Cond.methodLink RX2 21 yX2_startIfPossible ∈ gU := gt_5 _ (List.mem_of_getElem? (i := 4) rfl) rfl
theorem q5_5 : Cond.static yX2_startIfPossible ∈ gU := gt_5 _ (List.mem_of_getElem? (i := 5) rfl) rfl
theorem q5_6 : Cond.code yX2_startIfPossible cX2_startIfPossible 3 (some .boolean) ∈ gU := gt_5 _ (List.mem_of_getElem? (i := 6) rfl) rfl
theorem q5_7 : Cond.methodLink RX2 64 yX0_canStart ∈ gU := gt_5 _ (List.mem_of_getElem? (i := 7) rfl) rfl
theorem q5_8 : Cond.methodLink RX2 25 yX2_submitIfPossible ∈ gU := gt_5 _ (List.mem_of_getElem? (i := 8) rfl) rfl
theorem q5_9 : Cond.static yX2_submitIfPossible ∈ gU := gt_5 _ (List.mem_of_getElem? (i := 9) rfl) rfl
theorem q5_10 : Cond.code yX2_submitIfPossible cX2_submitIfPossible 3 (some .boolean) ∈ gU := gt_5 _ (List.mem_of_getElem? (i := 10) rfl) rfl
theorem q5_11 : Cond.methodLink RX2 28 yX2_closeIfPossible ∈ gU := gt_5 _ (List.mem_of_getElem? (i := 11) rfl) rfl
theorem q5_12 : Cond.static yX2_closeIfPossible ∈ gU := gt_5 _ (List.mem_of_getElem? (i := 12) rfl) rfl
theorem q5_13 : Cond.code yX2_closeIfPossible cX2_closeIfPossible 3 (some .boolean) ∈ gU := gt_5 _ (List.mem_of_getElem? (i := 13) rfl) rfl
theorem q5_14 : Cond.methodLink RX2 71 yX0_canClose ∈ gU := gt_5 _ (List.mem_of_getElem? (i := 14) rfl) rfl
theorem q5_15 : Cond.methodLink RX2 74 yX0_finish ∈ gU := gt_5 _ (List.mem_of_getElem? (i := 15) rfl) rfl
theorem q5_16 : Cond.methodLink RX2 31 yX2_passIfPossible ∈ gU := gt_5 _ (List.mem_of_getElem? (i := 16) rfl) rfl
theorem q5_17 : Cond.static yX2_passIfPossible ∈ gU := gt_5 _ (List.mem_of_getElem? (i := 17) rfl) rfl
theorem q5_18 : Cond.code yX2_passIfPossible cX2_passIfPossible 3 (some .boolean) ∈ gU := gt_5 _ (List.mem_of_getElem? (i := 18) rfl) rfl
theorem q5_19 : Cond.methodLink RX2 78 yX0_canPass ∈ gU := gt_5 _ (List.mem_of_getElem? (i := 19) rfl) rfl
theorem q5_20 : Cond.methodLink RX2 81 yX0_pass ∈ gU := gt_5 _ (List.mem_of_getElem? (i := 20) rfl) rfl
theorem q5_21 : Cond.methodLink RL 276 yL_impossibleOrder ∈ gU := gt_5 _ (List.mem_of_getElem? (i := 21) rfl) rfl
theorem q5_22 : Cond.static yL_impossibleOrder ∈ gU := gt_5 _ (List.mem_of_getElem? (i := 22) rfl) rfl
theorem q5_23 : Cond.codeWith yL_impossibleOrder cL_impossibleOrder 3 (some .int) [((0 : Nat), (8 : Nat), (11 : Nat), (13 : Nat)), ((0 : Nat), (8 : Nat), (14 : Nat), (15 : Nat))] ∈ gU := gt_5 _ (List.mem_of_getElem? (i := 23) rfl) rfl
theorem q5_24 : Cond.methodLink RL 79 yX6_impossibleOrder ∈ gU := gt_5 _ (List.mem_of_getElem? (i := 24) rfl) rfl
theorem q5_25 : Cond.instanceMethod yX6_impossibleOrder ∈ gU := gt_5 _ (List.mem_of_getElem? (i := 25) rfl) rfl
theorem q5_26 : Cond.selects RX6 yX6_impossibleOrder yX6_impossibleOrder ∈ gU := gt_5 _ (List.mem_of_getElem? (i := 26) rfl) rfl
theorem q5_27 : Cond.code yX6_impossibleOrder cX6_impossibleOrder 2 (some .int) ∈ gU := gt_5 _ (List.mem_of_getElem? (i := 27) rfl) rfl
theorem q5_28 : Cond.methodLink RL 279 yL_keep ∈ gU := gt_5 _ (List.mem_of_getElem? (i := 28) rfl) rfl
theorem q5_29 : Cond.static yL_keep ∈ gU := gt_5 _ (List.mem_of_getElem? (i := 29) rfl) rfl
theorem q5_30 : Cond.codeWith yL_keep cL_keep 3 (some .int) [((0 : Nat), (5 : Nat), (8 : Nat), (13 : Nat))] ∈ gU := gt_5 _ (List.mem_of_getElem? (i := 30) rfl) rfl
theorem q5_31 : Cond.methodLink RL 82 yX6_keep ∈ gU := gt_5 _ (List.mem_of_getElem? (i := 31) rfl) rfl
theorem q5_32 : Cond.instanceMethod yX6_keep ∈ gU := gt_5 _ (List.mem_of_getElem? (i := 32) rfl) rfl
theorem q5_33 : Cond.selects RX6 yX6_keep yX6_keep ∈ gU := gt_5 _ (List.mem_of_getElem? (i := 33) rfl) rfl
theorem q5_34 : Cond.code yX6_keep cX6_keep 2 none ∈ gU := gt_5 _ (List.mem_of_getElem? (i := 34) rfl) rfl
theorem q5_35 : Cond.methodLink RX6 202 yX6_isSlot ∈ gU := gt_5 _ (List.mem_of_getElem? (i := 35) rfl) rfl
theorem q5_36 : Cond.static yX6_isSlot ∈ gU := gt_5 _ (List.mem_of_getElem? (i := 36) rfl) rfl
theorem q5_37 : Cond.code yX6_isSlot cX6_isSlot 1 (some .boolean) ∈ gU := gt_5 _ (List.mem_of_getElem? (i := 37) rfl) rfl
theorem q5_38 : Cond.methodLink RX6 205 yX3_keepIn ∈ gU := gt_5 _ (List.mem_of_getElem? (i := 38) rfl) rfl
theorem q5_39 : Cond.instanceMethod yX3_keepIn ∈ gU := gt_5 _ (List.mem_of_getElem? (i := 39) rfl) rfl
theorem q5_40 : Cond.selects RX3 yX3_keepIn yX3_keepIn ∈ gU := gt_5 _ (List.mem_of_getElem? (i := 40) rfl) rfl
theorem q5_41 : Cond.code yX3_keepIn cX3_keepIn 3 none ∈ gU := gt_5 _ (List.mem_of_getElem? (i := 41) rfl) rfl
theorem q5_42 : Cond.methodLink RL 282 yL_goBack ∈ gU := gt_5 _ (List.mem_of_getElem? (i := 42) rfl) rfl
theorem q5_43 : Cond.static yL_goBack ∈ gU := gt_5 _ (List.mem_of_getElem? (i := 43) rfl) rfl
theorem q5_44 : Cond.codeWith yL_goBack cL_goBack 3 (some .int) [((0 : Nat), (5 : Nat), (8 : Nat), (13 : Nat)), ((0 : Nat), (5 : Nat), (11 : Nat), (15 : Nat))] ∈ gU := gt_5 _ (List.mem_of_getElem? (i := 44) rfl) rfl
theorem q5_45 : Cond.methodLink RL 85 yX6_goBack ∈ gU := gt_5 _ (List.mem_of_getElem? (i := 45) rfl) rfl
theorem q5_46 : Cond.instanceMethod yX6_goBack ∈ gU := gt_5 _ (List.mem_of_getElem? (i := 46) rfl) rfl
theorem q5_47 : Cond.selects RX6 yX6_goBack yX6_goBack ∈ gU := gt_5 _ (List.mem_of_getElem? (i := 47) rfl) rfl
theorem q5_48 : Cond.code yX6_goBack cX6_goBack 2 none ∈ gU := gt_5 _ (List.mem_of_getElem? (i := 48) rfl) rfl
theorem q5_49 : Cond.methodLink RX6 212 yX3_restoreKept ∈ gU := gt_5 _ (List.mem_of_getElem? (i := 49) rfl) rfl
theorem q5_50 : Cond.instanceMethod yX3_restoreKept ∈ gU := gt_5 _ (List.mem_of_getElem? (i := 50) rfl) rfl
theorem q5_51 : Cond.selects RX3 yX3_restoreKept yX3_restoreKept ∈ gU := gt_5 _ (List.mem_of_getElem? (i := 51) rfl) rfl
theorem q5_52 : Cond.code yX3_restoreKept cX3_restoreKept 3 none ∈ gU := gt_5 _ (List.mem_of_getElem? (i := 52) rfl) rfl
theorem q5_53 : Cond.methodLink RL 285 yL_undo ∈ gU := gt_5 _ (List.mem_of_getElem? (i := 53) rfl) rfl
theorem q5_54 : Cond.static yL_undo ∈ gU := gt_5 _ (List.mem_of_getElem? (i := 54) rfl) rfl
theorem q5_55 : Cond.codeWith yL_undo cL_undo 2 (some .int) [((0 : Nat), (4 : Nat), (7 : Nat), (15 : Nat))] ∈ gU := gt_5 _ (List.mem_of_getElem? (i := 55) rfl) rfl
theorem q5_56 : Cond.methodLink RL 88 yX6_undo ∈ gU := gt_5 _ (List.mem_of_getElem? (i := 56) rfl) rfl
theorem q5_57 : Cond.instanceMethod yX6_undo ∈ gU := gt_5 _ (List.mem_of_getElem? (i := 57) rfl) rfl
theorem q5_58 : Cond.selects RX6 yX6_undo yX6_undo ∈ gU := gt_5 _ (List.mem_of_getElem? (i := 58) rfl) rfl
theorem q5_59 : Cond.code yX6_undo cX6_undo 1 none ∈ gU := gt_5 _ (List.mem_of_getElem? (i := 59) rfl) rfl
theorem q5_60 : Cond.methodLink RX6 218 yX3_restoreSaved ∈ gU := gt_5 _ (List.mem_of_getElem? (i := 60) rfl) rfl
theorem q5_61 : Cond.instanceMethod yX3_restoreSaved ∈ gU := gt_5 _ (List.mem_of_getElem? (i := 61) rfl) rfl
theorem q5_62 : Cond.selects RX3 yX3_restoreSaved yX3_restoreSaved ∈ gU := gt_5 _ (List.mem_of_getElem? (i := 62) rfl) rfl
theorem q5_63 : Cond.code yX3_restoreSaved cX3_restoreSaved 2 none ∈ gU := gt_5 _ (List.mem_of_getElem? (i := 63) rfl) rfl
theorem q5_64 : Cond.methodLink RL 297 yL_stateOf ∈ gU := gt_5 _ (List.mem_of_getElem? (i := 64) rfl) rfl
theorem q5_65 : Cond.static yL_stateOf ∈ gU := gt_5 _ (List.mem_of_getElem? (i := 65) rfl) rfl
theorem q5_66 : Cond.codeWith yL_stateOf cL_stateOf 4 (some .int) [((0 : Nat), (9 : Nat), (12 : Nat), (20 : Nat))] ∈ gU := gt_5 _ (List.mem_of_getElem? (i := 66) rfl) rfl
theorem q5_67 : Cond.methodLink RL 91 yX6_stateOf ∈ gU := gt_5 _ (List.mem_of_getElem? (i := 67) rfl) rfl
theorem q5_68 : Cond.instanceMethod yX6_stateOf ∈ gU := gt_5 _ (List.mem_of_getElem? (i := 68) rfl) rfl
theorem q5_69 : Cond.selects RX6 yX6_stateOf yX6_stateOf ∈ gU := gt_5 _ (List.mem_of_getElem? (i := 69) rfl) rfl
theorem q5_70 : Cond.code yX6_stateOf cX6_stateOf 2 (some .int) ∈ gU := gt_5 _ (List.mem_of_getElem? (i := 70) rfl) rfl
theorem q5_71 : Cond.methodLink RL 300 yL_pointsOf ∈ gU := gt_5 _ (List.mem_of_getElem? (i := 71) rfl) rfl
theorem q5_72 : Cond.static yL_pointsOf ∈ gU := gt_5 _ (List.mem_of_getElem? (i := 72) rfl) rfl
theorem q5_73 : Cond.codeWith yL_pointsOf cL_pointsOf 4 (some .int) [((0 : Nat), (9 : Nat), (12 : Nat), (20 : Nat))] ∈ gU := gt_5 _ (List.mem_of_getElem? (i := 73) rfl) rfl
theorem q5_74 : Cond.methodLink RL 94 yX6_pointsOf ∈ gU := gt_5 _ (List.mem_of_getElem? (i := 74) rfl) rfl
theorem q5_75 : Cond.instanceMethod yX6_pointsOf ∈ gU := gt_5 _ (List.mem_of_getElem? (i := 75) rfl) rfl
theorem q5_76 : Cond.selects RX6 yX6_pointsOf yX6_pointsOf ∈ gU := gt_5 _ (List.mem_of_getElem? (i := 76) rfl) rfl
theorem q5_77 : Cond.code yX6_pointsOf cX6_pointsOf 2 (some .int) ∈ gU := gt_5 _ (List.mem_of_getElem? (i := 77) rfl) rfl
theorem q5_78 : Cond.methodLink RL 303 yL_priorityOf ∈ gU := gt_5 _ (List.mem_of_getElem? (i := 78) rfl) rfl
theorem q5_79 : Cond.static yL_priorityOf ∈ gU := gt_5 _ (List.mem_of_getElem? (i := 79) rfl) rfl
theorem q5_80 : Cond.codeWith yL_priorityOf cL_priorityOf 4 (some .int) [((0 : Nat), (9 : Nat), (12 : Nat), (20 : Nat))] ∈ gU := gt_5 _ (List.mem_of_getElem? (i := 80) rfl) rfl
theorem q5_81 : Cond.methodLink RL 97 yX6_priorityOf ∈ gU := gt_5 _ (List.mem_of_getElem? (i := 81) rfl) rfl
theorem q5_82 : Cond.instanceMethod yX6_priorityOf ∈ gU := gt_5 _ (List.mem_of_getElem? (i := 82) rfl) rfl
theorem q5_83 : Cond.selects RX6 yX6_priorityOf yX6_priorityOf ∈ gU := gt_5 _ (List.mem_of_getElem? (i := 83) rfl) rfl
theorem q5_84 : Cond.code yX6_priorityOf cX6_priorityOf 2 (some .int) ∈ gU := gt_5 _ (List.mem_of_getElem? (i := 84) rfl) rfl
theorem q5_85 : Cond.methodLink RL 306 yL_hasOwner ∈ gU := gt_5 _ (List.mem_of_getElem? (i := 85) rfl) rfl
theorem q5_86 : Cond.static yL_hasOwner ∈ gU := gt_5 _ (List.mem_of_getElem? (i := 86) rfl) rfl
theorem q5_87 : Cond.codeWith yL_hasOwner cL_hasOwner 4 (some .int) [((0 : Nat), (16 : Nat), (19 : Nat), (20 : Nat))] ∈ gU := gt_5 _ (List.mem_of_getElem? (i := 87) rfl) rfl
theorem q5_88 : Cond.methodLink RL 100 yX6_hasOwner ∈ gU := gt_5 _ (List.mem_of_getElem? (i := 88) rfl) rfl
theorem q5_89 : Cond.instanceMethod yX6_hasOwner ∈ gU := gt_5 _ (List.mem_of_getElem? (i := 89) rfl) rfl
theorem q5_90 : Cond.selects RX6 yX6_hasOwner yX6_hasOwner ∈ gU := gt_5 _ (List.mem_of_getElem? (i := 90) rfl) rfl
theorem q5_91 : Cond.code yX6_hasOwner cX6_hasOwner 2 (some .boolean) ∈ gU := gt_5 _ (List.mem_of_getElem? (i := 91) rfl) rfl
theorem q5_92 : Cond.methodLink RL 309 yL_ownerOf ∈ gU := gt_5 _ (List.mem_of_getElem? (i := 92) rfl) rfl
theorem q5_93 : Cond.static yL_ownerOf ∈ gU := gt_5 _ (List.mem_of_getElem? (i := 93) rfl) rfl
theorem q5_94 : Cond.codeWith yL_ownerOf cL_ownerOf 4 (some .int) [((0 : Nat), (9 : Nat), (12 : Nat), (20 : Nat)), ((0 : Nat), (9 : Nat), (15 : Nat), (15 : Nat))] ∈ gU := gt_5 _ (List.mem_of_getElem? (i := 94) rfl) rfl
theorem q5_95 : Cond.methodLink RL 104 yX6_ownerOf ∈ gU := gt_5 _ (List.mem_of_getElem? (i := 95) rfl) rfl
theorem q5_96 : Cond.instanceMethod yX6_ownerOf ∈ gU := gt_5 _ (List.mem_of_getElem? (i := 96) rfl) rfl
theorem q5_97 : Cond.selects RX6 yX6_ownerOf yX6_ownerOf ∈ gU := gt_5 _ (List.mem_of_getElem? (i := 97) rfl) rfl
theorem q5_98 : Cond.code yX6_ownerOf cX6_ownerOf 2 (some .int) ∈ gU := gt_5 _ (List.mem_of_getElem? (i := 98) rfl) rfl
theorem q5_99 : Cond.methodLink RL 312 yL_isPlanned ∈ gU := gt_5 _ (List.mem_of_getElem? (i := 99) rfl) rfl
theorem q5_100 : Cond.static yL_isPlanned ∈ gU := gt_5 _ (List.mem_of_getElem? (i := 100) rfl) rfl
theorem q5_101 : Cond.codeWith yL_isPlanned cL_isPlanned 4 (some .int) [((0 : Nat), (16 : Nat), (19 : Nat), (20 : Nat))] ∈ gU := gt_5 _ (List.mem_of_getElem? (i := 101) rfl) rfl
theorem q5_102 : Cond.methodLink RL 107 yX6_isPlanned ∈ gU := gt_5 _ (List.mem_of_getElem? (i := 102) rfl) rfl
theorem q5_103 : Cond.instanceMethod yX6_isPlanned ∈ gU := gt_5 _ (List.mem_of_getElem? (i := 103) rfl) rfl
theorem q5_104 : Cond.selects RX6 yX6_isPlanned yX6_isPlanned ∈ gU := gt_5 _ (List.mem_of_getElem? (i := 104) rfl) rfl
theorem q5_105 : Cond.code yX6_isPlanned cX6_isPlanned 2 (some .boolean) ∈ gU := gt_5 _ (List.mem_of_getElem? (i := 105) rfl) rfl
theorem q5_106 : Cond.methodLink RL 315 yL_milestoneOf ∈ gU := gt_5 _ (List.mem_of_getElem? (i := 106) rfl) rfl
theorem q5_107 : Cond.static yL_milestoneOf ∈ gU := gt_5 _ (List.mem_of_getElem? (i := 107) rfl) rfl
theorem q5_108 : Cond.codeWith yL_milestoneOf cL_milestoneOf 4 (some .int) [((0 : Nat), (9 : Nat), (12 : Nat), (20 : Nat)), ((0 : Nat), (9 : Nat), (15 : Nat), (15 : Nat))] ∈ gU := gt_5 _ (List.mem_of_getElem? (i := 108) rfl) rfl
theorem q5_109 : Cond.methodLink RL 110 yX6_milestoneOf ∈ gU := gt_5 _ (List.mem_of_getElem? (i := 109) rfl) rfl
theorem q5_110 : Cond.instanceMethod yX6_milestoneOf ∈ gU := gt_5 _ (List.mem_of_getElem? (i := 110) rfl) rfl
theorem q5_111 : Cond.selects RX6 yX6_milestoneOf yX6_milestoneOf ∈ gU := gt_5 _ (List.mem_of_getElem? (i := 111) rfl) rfl
theorem q5_112 : Cond.code yX6_milestoneOf cX6_milestoneOf 2 (some .int) ∈ gU := gt_5 _ (List.mem_of_getElem? (i := 112) rfl) rfl
theorem q5_113 : Cond.methodLink RL 318 yL_openedOn ∈ gU := gt_5 _ (List.mem_of_getElem? (i := 113) rfl) rfl
theorem q5_114 : Cond.static yL_openedOn ∈ gU := gt_5 _ (List.mem_of_getElem? (i := 114) rfl) rfl
theorem q5_115 : Cond.codeWith yL_openedOn cL_openedOn 4 (some .int) [((0 : Nat), (9 : Nat), (12 : Nat), (20 : Nat))] ∈ gU := gt_5 _ (List.mem_of_getElem? (i := 115) rfl) rfl
theorem q5_116 : Cond.methodLink RL 113 yX6_openedOn ∈ gU := gt_5 _ (List.mem_of_getElem? (i := 116) rfl) rfl
theorem q5_117 : Cond.instanceMethod yX6_openedOn ∈ gU := gt_5 _ (List.mem_of_getElem? (i := 117) rfl) rfl
theorem q5_118 : Cond.selects RX6 yX6_openedOn yX6_openedOn ∈ gU := gt_5 _ (List.mem_of_getElem? (i := 118) rfl) rfl
theorem q5_119 : Cond.code yX6_openedOn cX6_openedOn 2 (some .int) ∈ gU := gt_5 _ (List.mem_of_getElem? (i := 119) rfl) rfl
theorem q5_120 : Cond.methodLink RL 321 yL_closedOn ∈ gU := gt_5 _ (List.mem_of_getElem? (i := 120) rfl) rfl
theorem q5_121 : Cond.static yL_closedOn ∈ gU := gt_5 _ (List.mem_of_getElem? (i := 121) rfl) rfl
theorem q5_122 : Cond.codeWith yL_closedOn cL_closedOn 4 (some .int) [((0 : Nat), (9 : Nat), (12 : Nat), (20 : Nat)), ((0 : Nat), (9 : Nat), (15 : Nat), (15 : Nat))] ∈ gU := gt_5 _ (List.mem_of_getElem? (i := 122) rfl) rfl
theorem q5_123 : Cond.methodLink RL 116 yX6_closedOn ∈ gU := gt_5 _ (List.mem_of_getElem? (i := 123) rfl) rfl
theorem q5_124 : Cond.instanceMethod yX6_closedOn ∈ gU := gt_5 _ (List.mem_of_getElem? (i := 124) rfl) rfl
theorem q5_125 : Cond.selects RX6 yX6_closedOn yX6_closedOn ∈ gU := gt_5 _ (List.mem_of_getElem? (i := 125) rfl) rfl
theorem q5_126 : Cond.code yX6_closedOn cX6_closedOn 2 (some .int) ∈ gU := gt_5 _ (List.mem_of_getElem? (i := 126) rfl) rfl
theorem q5_127 : Cond.methodLink RL 324 yL_daysInProgress ∈ gU := gt_5 _ (List.mem_of_getElem? (i := 127) rfl) rfl
theorem q5_128 : Cond.static yL_daysInProgress ∈ gU := gt_5 _ (List.mem_of_getElem? (i := 128) rfl) rfl
theorem q5_129 : Cond.codeWith yL_daysInProgress cL_daysInProgress 4 (some .int) [((0 : Nat), (9 : Nat), (12 : Nat), (20 : Nat))] ∈ gU := gt_5 _ (List.mem_of_getElem? (i := 129) rfl) rfl
theorem q5_130 : Cond.methodLink RL 119 yX6_daysInProgress ∈ gU := gt_5 _ (List.mem_of_getElem? (i := 130) rfl) rfl
theorem q5_131 : Cond.instanceMethod yX6_daysInProgress ∈ gU := gt_5 _ (List.mem_of_getElem? (i := 131) rfl) rfl
theorem q5_132 : Cond.selects RX6 yX6_daysInProgress yX6_daysInProgress ∈ gU := gt_5 _ (List.mem_of_getElem? (i := 132) rfl) rfl
theorem q5_133 : Cond.code yX6_daysInProgress cX6_daysInProgress 2 (some .int) ∈ gU := gt_5 _ (List.mem_of_getElem? (i := 133) rfl) rfl
theorem q5_134 : Cond.methodLink RL 327 yL_timesSentBack ∈ gU := gt_5 _ (List.mem_of_getElem? (i := 134) rfl) rfl
theorem q5_135 : Cond.static yL_timesSentBack ∈ gU := gt_5 _ (List.mem_of_getElem? (i := 135) rfl) rfl
theorem q5_136 : Cond.codeWith yL_timesSentBack cL_timesSentBack 4 (some .int) [((0 : Nat), (9 : Nat), (12 : Nat), (20 : Nat))] ∈ gU := gt_5 _ (List.mem_of_getElem? (i := 136) rfl) rfl
theorem q5_137 : Cond.methodLink RL 122 yX6_timesSentBack ∈ gU := gt_5 _ (List.mem_of_getElem? (i := 137) rfl) rfl
theorem q5_138 : Cond.instanceMethod yX6_timesSentBack ∈ gU := gt_5 _ (List.mem_of_getElem? (i := 138) rfl) rfl
theorem q5_139 : Cond.selects RX6 yX6_timesSentBack yX6_timesSentBack ∈ gU := gt_5 _ (List.mem_of_getElem? (i := 139) rfl) rfl
theorem q5_140 : Cond.code yX6_timesSentBack cX6_timesSentBack 2 (some .int) ∈ gU := gt_5 _ (List.mem_of_getElem? (i := 140) rfl) rfl
theorem q5_141 : Cond.methodLink RL 330 yL_needs ∈ gU := gt_5 _ (List.mem_of_getElem? (i := 141) rfl) rfl
theorem q5_142 : Cond.static yL_needs ∈ gU := gt_5 _ (List.mem_of_getElem? (i := 142) rfl) rfl
theorem q5_143 : Cond.codeWith yL_needs cL_needs 5 (some .int) [((0 : Nat), (17 : Nat), (20 : Nat), (20 : Nat))] ∈ gU := gt_5 _ (List.mem_of_getElem? (i := 143) rfl) rfl
theorem q5_144 : Cond.methodLink RL 125 yX6_needs ∈ gU := gt_5 _ (List.mem_of_getElem? (i := 144) rfl) rfl
theorem q5_145 : Cond.instanceMethod yX6_needs ∈ gU := gt_5 _ (List.mem_of_getElem? (i := 145) rfl) rfl
theorem q5_146 : Cond.selects RX6 yX6_needs yX6_needs ∈ gU := gt_5 _ (List.mem_of_getElem? (i := 146) rfl) rfl
theorem q5_147 : Cond.code yX6_needs cX6_needs 3 (some .boolean) ∈ gU := gt_5 _ (List.mem_of_getElem? (i := 147) rfl) rfl
theorem q5_148 : Cond.methodLink RL 333 yL_needsOf ∈ gU := gt_5 _ (List.mem_of_getElem? (i := 148) rfl) rfl
theorem q5_149 : Cond.static yL_needsOf ∈ gU := gt_5 _ (List.mem_of_getElem? (i := 149) rfl) rfl
theorem q5_150 : Cond.codeWith yL_needsOf cL_needsOf 4 (some .int) [((0 : Nat), (9 : Nat), (12 : Nat), (20 : Nat))] ∈ gU := gt_5 _ (List.mem_of_getElem? (i := 150) rfl) rfl
theorem q5_151 : Cond.methodLink RL 129 yX6_needsOf ∈ gU := gt_5 _ (List.mem_of_getElem? (i := 151) rfl) rfl
theorem q5_152 : Cond.instanceMethod yX6_needsOf ∈ gU := gt_5 _ (List.mem_of_getElem? (i := 152) rfl) rfl
theorem q5_153 : Cond.selects RX6 yX6_needsOf yX6_needsOf ∈ gU := gt_5 _ (List.mem_of_getElem? (i := 153) rfl) rfl
theorem q5_154 : Cond.code yX6_needsOf cX6_needsOf 2 (some .int) ∈ gU := gt_5 _ (List.mem_of_getElem? (i := 154) rfl) rfl
theorem q5_155 : Cond.methodLink RL 336 yL_neededBy ∈ gU := gt_5 _ (List.mem_of_getElem? (i := 155) rfl) rfl
theorem q5_156 : Cond.static yL_neededBy ∈ gU := gt_5 _ (List.mem_of_getElem? (i := 156) rfl) rfl
theorem q5_157 : Cond.codeWith yL_neededBy cL_neededBy 4 (some .int) [((0 : Nat), (9 : Nat), (12 : Nat), (20 : Nat))] ∈ gU := gt_5 _ (List.mem_of_getElem? (i := 157) rfl) rfl
theorem q5_158 : Cond.methodLink RL 132 yX6_neededBy ∈ gU := gt_5 _ (List.mem_of_getElem? (i := 158) rfl) rfl
theorem q5_159 : Cond.instanceMethod yX6_neededBy ∈ gU := gt_5 _ (List.mem_of_getElem? (i := 159) rfl) rfl
theorem q5_160 : Cond.selects RX6 yX6_neededBy yX6_neededBy ∈ gU := gt_5 _ (List.mem_of_getElem? (i := 160) rfl) rfl
theorem q5_161 : Cond.code yX6_neededBy cX6_neededBy 2 (some .int) ∈ gU := gt_5 _ (List.mem_of_getElem? (i := 161) rfl) rfl
theorem q5_162 : Cond.methodLink RX6 245 yX0_thoseThatNeed ∈ gU := gt_5 _ (List.mem_of_getElem? (i := 162) rfl) rfl
theorem q5_163 : Cond.methodLink RL 339 yL_isBlocked ∈ gU := gt_5 _ (List.mem_of_getElem? (i := 163) rfl) rfl
theorem q5_164 : Cond.static yL_isBlocked ∈ gU := gt_5 _ (List.mem_of_getElem? (i := 164) rfl) rfl
theorem q5_165 : Cond.codeWith yL_isBlocked cL_isBlocked 4 (some .int) [((0 : Nat), (16 : Nat), (19 : Nat), (20 : Nat))] ∈ gU := gt_5 _ (List.mem_of_getElem? (i := 165) rfl) rfl
theorem q5_166 : Cond.methodLink RL 135 yX6_isBlocked ∈ gU := gt_5 _ (List.mem_of_getElem? (i := 166) rfl) rfl
theorem q5_167 : Cond.instanceMethod yX6_isBlocked ∈ gU := gt_5 _ (List.mem_of_getElem? (i := 167) rfl) rfl
theorem q5_168 : Cond.selects RX6 yX6_isBlocked yX6_isBlocked ∈ gU := gt_5 _ (List.mem_of_getElem? (i := 168) rfl) rfl
theorem q5_169 : Cond.code yX6_isBlocked cX6_isBlocked 2 (some .boolean) ∈ gU := gt_5 _ (List.mem_of_getElem? (i := 169) rfl) rfl
theorem q5_170 : Cond.methodLink RL 342 yL_blockersOf ∈ gU := gt_5 _ (List.mem_of_getElem? (i := 170) rfl) rfl
theorem q5_171 : Cond.static yL_blockersOf ∈ gU := gt_5 _ (List.mem_of_getElem? (i := 171) rfl) rfl
theorem q5_172 : Cond.codeWith yL_blockersOf cL_blockersOf 4 (some .int) [((0 : Nat), (9 : Nat), (12 : Nat), (20 : Nat))] ∈ gU := gt_5 _ (List.mem_of_getElem? (i := 172) rfl) rfl
theorem q5_173 : Cond.methodLink RL 138 yX6_blockersOf ∈ gU := gt_5 _ (List.mem_of_getElem? (i := 173) rfl) rfl
theorem q5_174 : Cond.instanceMethod yX6_blockersOf ∈ gU := gt_5 _ (List.mem_of_getElem? (i := 174) rfl) rfl
theorem q5_175 : Cond.selects RX6 yX6_blockersOf yX6_blockersOf ∈ gU := gt_5 _ (List.mem_of_getElem? (i := 175) rfl) rfl
theorem q5_176 : Cond.code yX6_blockersOf cX6_blockersOf 2 (some .int) ∈ gU := gt_5 _ (List.mem_of_getElem? (i := 176) rfl) rfl
theorem q5_177 : Cond.methodLink RL 345 yL_allNeedsByGoing ∈ gU := gt_5 _ (List.mem_of_getElem? (i := 177) rfl) rfl
theorem q5_178 : Cond.static yL_allNeedsByGoing ∈ gU := gt_5 _ (List.mem_of_getElem? (i := 178) rfl) rfl
theorem q5_179 : Cond.codeWith yL_allNeedsByGoing cL_allNeedsByGoing 4 (some .int) [((0 : Nat), (9 : Nat), (12 : Nat), (20 : Nat))] ∈ gU := gt_5 _ (List.mem_of_getElem? (i := 179) rfl) rfl
theorem q5_180 : Cond.methodLink RL 141 yX6_allNeedsByGoing ∈ gU := gt_5 _ (List.mem_of_getElem? (i := 180) rfl) rfl
theorem q5_181 : Cond.instanceMethod yX6_allNeedsByGoing ∈ gU := gt_5 _ (List.mem_of_getElem? (i := 181) rfl) rfl
theorem q5_182 : Cond.selects RX6 yX6_allNeedsByGoing yX6_allNeedsByGoing ∈ gU := gt_5 _ (List.mem_of_getElem? (i := 182) rfl) rfl
theorem q5_183 : Cond.code yX6_allNeedsByGoing cX6_allNeedsByGoing 2 (some .int) ∈ gU := gt_5 _ (List.mem_of_getElem? (i := 183) rfl) rfl
theorem q5_184 : Cond.methodLink RL 348 yL_allNeedsByTable ∈ gU := gt_5 _ (List.mem_of_getElem? (i := 184) rfl) rfl
theorem q5_185 : Cond.static yL_allNeedsByTable ∈ gU := gt_5 _ (List.mem_of_getElem? (i := 185) rfl) rfl
theorem q5_186 : Cond.codeWith yL_allNeedsByTable cL_allNeedsByTable 4 (some .int) [((0 : Nat), (9 : Nat), (12 : Nat), (20 : Nat))] ∈ gU := gt_5 _ (List.mem_of_getElem? (i := 186) rfl) rfl
theorem q5_187 : Cond.methodLink RL 144 yX6_allNeedsByTable ∈ gU := gt_5 _ (List.mem_of_getElem? (i := 187) rfl) rfl
theorem q5_188 : Cond.instanceMethod yX6_allNeedsByTable ∈ gU := gt_5 _ (List.mem_of_getElem? (i := 188) rfl) rfl
theorem q5_189 : Cond.selects RX6 yX6_allNeedsByTable yX6_allNeedsByTable ∈ gU := gt_5 _ (List.mem_of_getElem? (i := 189) rfl) rfl
theorem q5_190 : Cond.code yX6_allNeedsByTable cX6_allNeedsByTable 2 (some .int) ∈ gU := gt_5 _ (List.mem_of_getElem? (i := 190) rfl) rfl
theorem q5_191 : Cond.methodLink RL 351 yL_chainOf ∈ gU := gt_5 _ (List.mem_of_getElem? (i := 191) rfl) rfl
theorem q5_192 : Cond.static yL_chainOf ∈ gU := gt_5 _ (List.mem_of_getElem? (i := 192) rfl) rfl
theorem q5_193 : Cond.codeWith yL_chainOf cL_chainOf 4 (some .int) [((0 : Nat), (9 : Nat), (12 : Nat), (20 : Nat))] ∈ gU := gt_5 _ (List.mem_of_getElem? (i := 193) rfl) rfl
theorem q5_194 : Cond.methodLink RL 147 yX6_chainOf ∈ gU := gt_5 _ (List.mem_of_getElem? (i := 194) rfl) rfl
theorem q5_195 : Cond.instanceMethod yX6_chainOf ∈ gU := gt_5 _ (List.mem_of_getElem? (i := 195) rfl) rfl
theorem q5_196 : Cond.selects RX6 yX6_chainOf yX6_chainOf ∈ gU := gt_5 _ (List.mem_of_getElem? (i := 196) rfl) rfl
theorem q5_197 : Cond.code yX6_chainOf cX6_chainOf 2 (some .int) ∈ gU := gt_5 _ (List.mem_of_getElem? (i := 197) rfl) rfl
theorem q5_198 : Cond.methodLink RL 362 yL_capacityOf ∈ gU := gt_5 _ (List.mem_of_getElem? (i := 198) rfl) rfl
theorem q5_199 : Cond.static yL_capacityOf ∈ gU := gt_5 _ (List.mem_of_getElem? (i := 199) rfl) rfl
theorem q5_200 : Cond.codeWith yL_capacityOf cL_capacityOf 4 (some .int) [((0 : Nat), (9 : Nat), (12 : Nat), (20 : Nat))] ∈ gU := gt_5 _ (List.mem_of_getElem? (i := 200) rfl) rfl
theorem q5_201 : Cond.methodLink RL 150 yX6_capacityOf ∈ gU := gt_5 _ (List.mem_of_getElem? (i := 201) rfl) rfl
theorem q5_202 : Cond.instanceMethod yX6_capacityOf ∈ gU := gt_5 _ (List.mem_of_getElem? (i := 202) rfl) rfl
theorem q5_203 : Cond.selects RX6 yX6_capacityOf yX6_capacityOf ∈ gU := gt_5 _ (List.mem_of_getElem? (i := 203) rfl) rfl
theorem q5_204 : Cond.code yX6_capacityOf cX6_capacityOf 2 (some .int) ∈ gU := gt_5 _ (List.mem_of_getElem? (i := 204) rfl) rfl
theorem q5_205 : Cond.methodLink RL 365 yL_loadByTickets ∈ gU := gt_5 _ (List.mem_of_getElem? (i := 205) rfl) rfl
theorem q5_206 : Cond.static yL_loadByTickets ∈ gU := gt_5 _ (List.mem_of_getElem? (i := 206) rfl) rfl
theorem q5_207 : Cond.codeWith yL_loadByTickets cL_loadByTickets 4 (some .int) [((0 : Nat), (9 : Nat), (12 : Nat), (20 : Nat))] ∈ gU := gt_5 _ (List.mem_of_getElem? (i := 207) rfl) rfl
theorem q5_208 : Cond.methodLink RL 153 yX6_loadByTickets ∈ gU := gt_5 _ (List.mem_of_getElem? (i := 208) rfl) rfl
theorem q5_209 : Cond.instanceMethod yX6_loadByTickets ∈ gU := gt_5 _ (List.mem_of_getElem? (i := 209) rfl) rfl
theorem q5_210 : Cond.selects RX6 yX6_loadByTickets yX6_loadByTickets ∈ gU := gt_5 _ (List.mem_of_getElem? (i := 210) rfl) rfl
theorem q5_211 : Cond.code yX6_loadByTickets cX6_loadByTickets 2 (some .int) ∈ gU := gt_5 _ (List.mem_of_getElem? (i := 211) rfl) rfl
theorem q5_212 : Cond.methodLink RL 368 yL_loadByAccount ∈ gU := gt_5 _ (List.mem_of_getElem? (i := 212) rfl) rfl
theorem q5_213 : Cond.static yL_loadByAccount ∈ gU := gt_5 _ (List.mem_of_getElem? (i := 213) rfl) rfl
theorem q5_214 : Cond.codeWith yL_loadByAccount cL_loadByAccount 4 (some .int) [((0 : Nat), (9 : Nat), (12 : Nat), (20 : Nat))] ∈ gU := gt_5 _ (List.mem_of_getElem? (i := 214) rfl) rfl
theorem q5_215 : Cond.methodLink RL 156 yX6_loadByAccount ∈ gU := gt_5 _ (List.mem_of_getElem? (i := 215) rfl) rfl
theorem q5_216 : Cond.instanceMethod yX6_loadByAccount ∈ gU := gt_5 _ (List.mem_of_getElem? (i := 216) rfl) rfl
theorem q5_217 : Cond.selects RX6 yX6_loadByAccount yX6_loadByAccount ∈ gU := gt_5 _ (List.mem_of_getElem? (i := 217) rfl) rfl
theorem q5_218 : Cond.code yX6_loadByAccount cX6_loadByAccount 2 (some .int) ∈ gU := gt_5 _ (List.mem_of_getElem? (i := 218) rfl) rfl
theorem q5_219 : Cond.methodLink RL 371 yL_inProgressOf ∈ gU := gt_5 _ (List.mem_of_getElem? (i := 219) rfl) rfl
theorem q5_220 : Cond.static yL_inProgressOf ∈ gU := gt_5 _ (List.mem_of_getElem? (i := 220) rfl) rfl
theorem q5_221 : Cond.codeWith yL_inProgressOf cL_inProgressOf 4 (some .int) [((0 : Nat), (9 : Nat), (12 : Nat), (20 : Nat))] ∈ gU := gt_5 _ (List.mem_of_getElem? (i := 221) rfl) rfl
theorem q5_222 : Cond.methodLink RL 159 yX6_inProgressOf ∈ gU := gt_5 _ (List.mem_of_getElem? (i := 222) rfl) rfl
theorem q5_223 : Cond.instanceMethod yX6_inProgressOf ∈ gU := gt_5 _ (List.mem_of_getElem? (i := 223) rfl) rfl
theorem q5_224 : Cond.selects RX6 yX6_inProgressOf yX6_inProgressOf ∈ gU := gt_5 _ (List.mem_of_getElem? (i := 224) rfl) rfl
theorem q5_225 : Cond.code yX6_inProgressOf cX6_inProgressOf 2 (some .int) ∈ gU := gt_5 _ (List.mem_of_getElem? (i := 225) rfl) rfl
theorem q5_226 : Cond.methodLink RL 374 yL_donePointsOf ∈ gU := gt_5 _ (List.mem_of_getElem? (i := 226) rfl) rfl
theorem q5_227 : Cond.static yL_donePointsOf ∈ gU := gt_5 _ (List.mem_of_getElem? (i := 227) rfl) rfl
theorem q5_228 : Cond.codeWith yL_donePointsOf cL_donePointsOf 4 (some .int) [((0 : Nat), (9 : Nat), (12 : Nat), (20 : Nat))] ∈ gU := gt_5 _ (List.mem_of_getElem? (i := 228) rfl) rfl
theorem q5_229 : Cond.methodLink RL 162 yX6_donePointsOf ∈ gU := gt_5 _ (List.mem_of_getElem? (i := 229) rfl) rfl
theorem q5_230 : Cond.instanceMethod yX6_donePointsOf ∈ gU := gt_5 _ (List.mem_of_getElem? (i := 230) rfl) rfl
theorem q5_231 : Cond.selects RX6 yX6_donePointsOf yX6_donePointsOf ∈ gU := gt_5 _ (List.mem_of_getElem? (i := 231) rfl) rfl
theorem q5_232 : Cond.code yX6_donePointsOf cX6_donePointsOf 2 (some .int) ∈ gU := gt_5 _ (List.mem_of_getElem? (i := 232) rfl) rfl
theorem q5_233 : Cond.methodLink RL 381 yL_dateOf ∈ gU := gt_5 _ (List.mem_of_getElem? (i := 233) rfl) rfl
theorem q5_234 : Cond.static yL_dateOf ∈ gU := gt_5 _ (List.mem_of_getElem? (i := 234) rfl) rfl
theorem q5_235 : Cond.codeWith yL_dateOf cL_dateOf 4 (some .int) [((0 : Nat), (9 : Nat), (12 : Nat), (20 : Nat))] ∈ gU := gt_5 _ (List.mem_of_getElem? (i := 235) rfl) rfl
theorem q5_236 : Cond.methodLink RL 165 yX6_dateOf ∈ gU := gt_5 _ (List.mem_of_getElem? (i := 236) rfl) rfl
theorem q5_237 : Cond.instanceMethod yX6_dateOf ∈ gU := gt_5 _ (List.mem_of_getElem? (i := 237) rfl) rfl
theorem q5_238 : Cond.selects RX6 yX6_dateOf yX6_dateOf ∈ gU := gt_5 _ (List.mem_of_getElem? (i := 238) rfl) rfl
theorem q5_239 : Cond.code yX6_dateOf cX6_dateOf 2 (some .int) ∈ gU := gt_5 _ (List.mem_of_getElem? (i := 239) rfl) rfl
theorem q6_0 : Cond.methodLink RL 384 yL_pointsLeft ∈ gU := gt_6 _ (List.mem_of_getElem? (i := 0) rfl) rfl
theorem q6_1 : Cond.static yL_pointsLeft ∈ gU := gt_6 _ (List.mem_of_getElem? (i := 1) rfl) rfl
theorem q6_2 : Cond.codeWith yL_pointsLeft cL_pointsLeft 4 (some .int) [((0 : Nat), (9 : Nat), (12 : Nat), (20 : Nat))] ∈ gU := gt_6 _ (List.mem_of_getElem? (i := 2) rfl) rfl
theorem q6_3 : Cond.methodLink RL 168 yX6_pointsLeft ∈ gU := gt_6 _ (List.mem_of_getElem? (i := 3) rfl) rfl
theorem q6_4 : Cond.instanceMethod yX6_pointsLeft ∈ gU := gt_6 _ (List.mem_of_getElem? (i := 4) rfl) rfl
theorem q6_5 : Cond.selects RX6 yX6_pointsLeft yX6_pointsLeft ∈ gU := gt_6 _ (List.mem_of_getElem? (i := 5) rfl) rfl
theorem q6_6 : Cond.code yX6_pointsLeft cX6_pointsLeft 2 (some .int) ∈ gU := gt_6 _ (List.mem_of_getElem? (i := 6) rfl) rfl
theorem q6_7 : Cond.methodLink RL 387 yL_pointsDone ∈ gU := gt_6 _ (List.mem_of_getElem? (i := 7) rfl) rfl
theorem q6_8 : Cond.static yL_pointsDone ∈ gU := gt_6 _ (List.mem_of_getElem? (i := 8) rfl) rfl
theorem q6_9 : Cond.codeWith yL_pointsDone cL_pointsDone 4 (some .int) [((0 : Nat), (9 : Nat), (12 : Nat), (20 : Nat))] ∈ gU := gt_6 _ (List.mem_of_getElem? (i := 9) rfl) rfl
theorem q6_10 : Cond.methodLink RL 171 yX6_pointsDone ∈ gU := gt_6 _ (List.mem_of_getElem? (i := 10) rfl) rfl
theorem q6_11 : Cond.instanceMethod yX6_pointsDone ∈ gU := gt_6 _ (List.mem_of_getElem? (i := 11) rfl) rfl
theorem q6_12 : Cond.selects RX6 yX6_pointsDone yX6_pointsDone ∈ gU := gt_6 _ (List.mem_of_getElem? (i := 12) rfl) rfl
theorem q6_13 : Cond.code yX6_pointsDone cX6_pointsDone 2 (some .int) ∈ gU := gt_6 _ (List.mem_of_getElem? (i := 13) rfl) rfl
theorem q6_14 : Cond.methodLink RL 390 yL_hundredthsDone ∈ gU := gt_6 _ (List.mem_of_getElem? (i := 14) rfl) rfl
theorem q6_15 : Cond.static yL_hundredthsDone ∈ gU := gt_6 _ (List.mem_of_getElem? (i := 15) rfl) rfl
theorem q6_16 : Cond.codeWith yL_hundredthsDone cL_hundredthsDone 4 (some .int) [((0 : Nat), (9 : Nat), (12 : Nat), (20 : Nat))] ∈ gU := gt_6 _ (List.mem_of_getElem? (i := 16) rfl) rfl
theorem q6_17 : Cond.methodLink RL 174 yX6_hundredthsDone ∈ gU := gt_6 _ (List.mem_of_getElem? (i := 17) rfl) rfl
theorem q6_18 : Cond.instanceMethod yX6_hundredthsDone ∈ gU := gt_6 _ (List.mem_of_getElem? (i := 18) rfl) rfl
theorem q6_19 : Cond.selects RX6 yX6_hundredthsDone yX6_hundredthsDone ∈ gU := gt_6 _ (List.mem_of_getElem? (i := 19) rfl) rfl
theorem q6_20 : Cond.code yX6_hundredthsDone cX6_hundredthsDone 2 (some .int) ∈ gU := gt_6 _ (List.mem_of_getElem? (i := 20) rfl) rfl
theorem q6_21 : Cond.methodLink RL 393 yL_isLate ∈ gU := gt_6 _ (List.mem_of_getElem? (i := 21) rfl) rfl
theorem q6_22 : Cond.static yL_isLate ∈ gU := gt_6 _ (List.mem_of_getElem? (i := 22) rfl) rfl
theorem q6_23 : Cond.codeWith yL_isLate cL_isLate 4 (some .int) [((0 : Nat), (16 : Nat), (19 : Nat), (20 : Nat))] ∈ gU := gt_6 _ (List.mem_of_getElem? (i := 23) rfl) rfl
theorem q6_24 : Cond.methodLink RL 177 yX6_isLate ∈ gU := gt_6 _ (List.mem_of_getElem? (i := 24) rfl) rfl
theorem q6_25 : Cond.instanceMethod yX6_isLate ∈ gU := gt_6 _ (List.mem_of_getElem? (i := 25) rfl) rfl
theorem q6_26 : Cond.selects RX6 yX6_isLate yX6_isLate ∈ gU := gt_6 _ (List.mem_of_getElem? (i := 26) rfl) rfl
theorem q6_27 : Cond.code yX6_isLate cX6_isLate 2 (some .boolean) ∈ gU := gt_6 _ (List.mem_of_getElem? (i := 27) rfl) rfl
theorem q6_28 : Cond.methodLink RL 396 yL_misplanned ∈ gU := gt_6 _ (List.mem_of_getElem? (i := 28) rfl) rfl
theorem q6_29 : Cond.static yL_misplanned ∈ gU := gt_6 _ (List.mem_of_getElem? (i := 29) rfl) rfl
theorem q6_30 : Cond.codeWith yL_misplanned cL_misplanned 4 (some .int) [((0 : Nat), (9 : Nat), (12 : Nat), (20 : Nat))] ∈ gU := gt_6 _ (List.mem_of_getElem? (i := 30) rfl) rfl
theorem q6_31 : Cond.methodLink RL 180 yX6_misplanned ∈ gU := gt_6 _ (List.mem_of_getElem? (i := 31) rfl) rfl
theorem q6_32 : Cond.instanceMethod yX6_misplanned ∈ gU := gt_6 _ (List.mem_of_getElem? (i := 32) rfl) rfl
theorem q6_33 : Cond.selects RX6 yX6_misplanned yX6_misplanned ∈ gU := gt_6 _ (List.mem_of_getElem? (i := 33) rfl) rfl
theorem q6_34 : Cond.code yX6_misplanned cX6_misplanned 2 (some .int) ∈ gU := gt_6 _ (List.mem_of_getElem? (i := 34) rfl) rfl
theorem q6_35 : Cond.methodLink RL 403 yL_nextToDo ∈ gU := gt_6 _ (List.mem_of_getElem? (i := 35) rfl) rfl
theorem q6_36 : Cond.static yL_nextToDo ∈ gU := gt_6 _ (List.mem_of_getElem? (i := 36) rfl) rfl
theorem q6_37 : Cond.codeWith yL_nextToDo cL_nextToDo 3 (some .int) [((0 : Nat), (8 : Nat), (11 : Nat), (15 : Nat))] ∈ gU := gt_6 _ (List.mem_of_getElem? (i := 37) rfl) rfl
theorem q6_38 : Cond.methodLink RL 183 yX6_nextToDo ∈ gU := gt_6 _ (List.mem_of_getElem? (i := 38) rfl) rfl
theorem q6_39 : Cond.instanceMethod yX6_nextToDo ∈ gU := gt_6 _ (List.mem_of_getElem? (i := 39) rfl) rfl
theorem q6_40 : Cond.selects RX6 yX6_nextToDo yX6_nextToDo ∈ gU := gt_6 _ (List.mem_of_getElem? (i := 40) rfl) rfl
theorem q6_41 : Cond.code yX6_nextToDo cX6_nextToDo 2 (some .int) ∈ gU := gt_6 _ (List.mem_of_getElem? (i := 41) rfl) rfl
theorem q6_42 : Cond.methodLink RL 406 yL_closedAt ∈ gU := gt_6 _ (List.mem_of_getElem? (i := 42) rfl) rfl
theorem q6_43 : Cond.static yL_closedAt ∈ gU := gt_6 _ (List.mem_of_getElem? (i := 43) rfl) rfl
theorem q6_44 : Cond.codeWith yL_closedAt cL_closedAt 4 (some .int) [((0 : Nat), (9 : Nat), (12 : Nat), (20 : Nat))] ∈ gU := gt_6 _ (List.mem_of_getElem? (i := 44) rfl) rfl
theorem q6_45 : Cond.methodLink RL 186 yX6_closedAt ∈ gU := gt_6 _ (List.mem_of_getElem? (i := 45) rfl) rfl
theorem q6_46 : Cond.instanceMethod yX6_closedAt ∈ gU := gt_6 _ (List.mem_of_getElem? (i := 46) rfl) rfl
theorem q6_47 : Cond.selects RX6 yX6_closedAt yX6_closedAt ∈ gU := gt_6 _ (List.mem_of_getElem? (i := 47) rfl) rfl
theorem q6_48 : Cond.code yX6_closedAt cX6_closedAt 3 (some .int) ∈ gU := gt_6 _ (List.mem_of_getElem? (i := 48) rfl) rfl
theorem q6_49 : Cond.methodLink RL 413 yL_withState ∈ gU := gt_6 _ (List.mem_of_getElem? (i := 49) rfl) rfl
theorem q6_50 : Cond.static yL_withState ∈ gU := gt_6 _ (List.mem_of_getElem? (i := 50) rfl) rfl
theorem q6_51 : Cond.codeWith yL_withState cL_withState 4 (some .int) [((0 : Nat), (9 : Nat), (12 : Nat), (13 : Nat))] ∈ gU := gt_6 _ (List.mem_of_getElem? (i := 51) rfl) rfl
theorem q6_52 : Cond.methodLink RL 189 yX6_withState ∈ gU := gt_6 _ (List.mem_of_getElem? (i := 52) rfl) rfl
theorem q6_53 : Cond.instanceMethod yX6_withState ∈ gU := gt_6 _ (List.mem_of_getElem? (i := 53) rfl) rfl
theorem q6_54 : Cond.selects RX6 yX6_withState yX6_withState ∈ gU := gt_6 _ (List.mem_of_getElem? (i := 54) rfl) rfl
theorem q6_55 : Cond.code yX6_withState cX6_withState 2 (some .int) ∈ gU := gt_6 _ (List.mem_of_getElem? (i := 55) rfl) rfl
theorem q6_56 : Cond.methodLink RX6 312 yX0_inState ∈ gU := gt_6 _ (List.mem_of_getElem? (i := 56) rfl) rfl
theorem q6_57 : Cond.methodLink RL 416 yL_pointsWith ∈ gU := gt_6 _ (List.mem_of_getElem? (i := 57) rfl) rfl
theorem q6_58 : Cond.static yL_pointsWith ∈ gU := gt_6 _ (List.mem_of_getElem? (i := 58) rfl) rfl
theorem q6_59 : Cond.codeWith yL_pointsWith cL_pointsWith 4 (some .int) [((0 : Nat), (9 : Nat), (12 : Nat), (13 : Nat))] ∈ gU := gt_6 _ (List.mem_of_getElem? (i := 59) rfl) rfl
theorem q6_60 : Cond.methodLink RL 192 yX6_pointsWith ∈ gU := gt_6 _ (List.mem_of_getElem? (i := 60) rfl) rfl
theorem q6_61 : Cond.instanceMethod yX6_pointsWith ∈ gU := gt_6 _ (List.mem_of_getElem? (i := 61) rfl) rfl
theorem q6_62 : Cond.selects RX6 yX6_pointsWith yX6_pointsWith ∈ gU := gt_6 _ (List.mem_of_getElem? (i := 62) rfl) rfl
theorem q6_63 : Cond.code yX6_pointsWith cX6_pointsWith 2 (some .int) ∈ gU := gt_6 _ (List.mem_of_getElem? (i := 63) rfl) rfl
theorem q6_64 : Cond.classLink RL 196 RX7 ∈ gU := gt_6 _ (List.mem_of_getElem? (i := 64) rfl) rfl
theorem q6_65 : Cond.instantiable RX7 15 ∈ gU := gt_6 _ (List.mem_of_getElem? (i := 65) rfl) rfl
theorem q6_66 : Cond.methodLink RL 198 yX7_init ∈ gU := gt_6 _ (List.mem_of_getElem? (i := 66) rfl) rfl
theorem q6_67 : Cond.instanceMethod yX7_init ∈ gU := gt_6 _ (List.mem_of_getElem? (i := 67) rfl) rfl
theorem q6_68 : Cond.code yX7_init cX7_init 2 none ∈ gU := gt_6 _ (List.mem_of_getElem? (i := 68) rfl) rfl
theorem q6_69 : Cond.methodLink RX7 1 objectInit ∈ gU := gt_6 _ (List.mem_of_getElem? (i := 69) rfl) rfl
theorem q6_70 : Cond.fieldLink RX7 38 RX7 "thrown" "I" ∈ gU := gt_6 _ (List.mem_of_getElem? (i := 70) rfl) rfl
theorem q6_71 : Cond.fieldLink RX7 7 RX7 "s" "[I" ∈ gU := gt_6 _ (List.mem_of_getElem? (i := 71) rfl) rfl
theorem q6_72 : Cond.fieldLink RX7 13 RX7 "aside" "[I" ∈ gU := gt_6 _ (List.mem_of_getElem? (i := 72) rfl) rfl
theorem q6_73 : Cond.fieldLink RX7 16 RX7 "states" "[I" ∈ gU := gt_6 _ (List.mem_of_getElem? (i := 73) rfl) rfl
theorem q6_74 : Cond.fieldLink RX7 46 RX7 "stateMany" "I" ∈ gU := gt_6 _ (List.mem_of_getElem? (i := 74) rfl) rfl
theorem q6_75 : Cond.fieldLink RX7 19 RX7 "slots" "[I" ∈ gU := gt_6 _ (List.mem_of_getElem? (i := 75) rfl) rfl
theorem q6_76 : Cond.fieldLink RX7 22 RX7 "hasSlot" "[Z" ∈ gU := gt_6 _ (List.mem_of_getElem? (i := 76) rfl) rfl
theorem q6_77 : Cond.fieldLink RX7 26 RX7 "text" "[I" ∈ gU := gt_6 _ (List.mem_of_getElem? (i := 77) rfl) rfl
theorem q6_78 : Cond.fieldLink RX7 140 RX7 "length" "I" ∈ gU := gt_6 _ (List.mem_of_getElem? (i := 78) rfl) rfl
theorem q6_79 : Cond.fieldLink RX7 143 RX7 "at" "I" ∈ gU := gt_6 _ (List.mem_of_getElem? (i := 79) rfl) rfl
theorem q6_80 : Cond.fieldLink RX7 146 RX7 "isWell" "Z" ∈ gU := gt_6 _ (List.mem_of_getElem? (i := 80) rfl) rfl
theorem q6_81 : Cond.fieldLink RX7 29 RX7 "read" "[I" ∈ gU := gt_6 _ (List.mem_of_getElem? (i := 81) rfl) rfl
theorem q6_82 : Cond.fieldLink RX7 156 RX7 "readMany" "I" ∈ gU := gt_6 _ (List.mem_of_getElem? (i := 82) rfl) rfl
theorem q6_83 : Cond.fieldLink RX7 32 RX7 "order" "[I" ∈ gU := gt_6 _ (List.mem_of_getElem? (i := 83) rfl) rfl
theorem q6_84 : Cond.fieldLink RX7 35 RX7 "chain" "[I" ∈ gU := gt_6 _ (List.mem_of_getElem? (i := 84) rfl) rfl
theorem q6_85 : Cond.lays RX7 RX7 "thrown" "I" ∈ gU := gt_6 _ (List.mem_of_getElem? (i := 85) rfl) rfl
theorem q6_87 : Cond.laysFinal RX7 RX7 "s" "[I" ∈ gU := gt_6 _ (List.mem_of_getElem? (i := 87) rfl) rfl
theorem q6_89 : Cond.laysFinal RX7 RX7 "aside" "[I" ∈ gU := gt_6 _ (List.mem_of_getElem? (i := 89) rfl) rfl
theorem q6_91 : Cond.laysFinal RX7 RX7 "states" "[I" ∈ gU := gt_6 _ (List.mem_of_getElem? (i := 91) rfl) rfl
theorem q6_93 : Cond.lays RX7 RX7 "stateMany" "I" ∈ gU := gt_6 _ (List.mem_of_getElem? (i := 93) rfl) rfl
theorem q6_95 : Cond.laysFinal RX7 RX7 "slots" "[I" ∈ gU := gt_6 _ (List.mem_of_getElem? (i := 95) rfl) rfl
theorem q6_97 : Cond.laysFinal RX7 RX7 "hasSlot" "[Z" ∈ gU := gt_6 _ (List.mem_of_getElem? (i := 97) rfl) rfl
theorem q6_99 : Cond.laysFinal RX7 RX7 "text" "[I" ∈ gU := gt_6 _ (List.mem_of_getElem? (i := 99) rfl) rfl
theorem q6_101 : Cond.lays RX7 RX7 "length" "I" ∈ gU := gt_6 _ (List.mem_of_getElem? (i := 101) rfl) rfl
theorem q6_103 : Cond.lays RX7 RX7 "at" "I" ∈ gU := gt_6 _ (List.mem_of_getElem? (i := 103) rfl) rfl
theorem q6_105 : Cond.lays RX7 RX7 "isWell" "Z" ∈ gU := gt_6 _ (List.mem_of_getElem? (i := 105) rfl) rfl
theorem q6_107 : Cond.laysFinal RX7 RX7 "read" "[I" ∈ gU := gt_6 _ (List.mem_of_getElem? (i := 107) rfl) rfl
theorem q6_109 : Cond.lays RX7 RX7 "readMany" "I" ∈ gU := gt_6 _ (List.mem_of_getElem? (i := 109) rfl) rfl
theorem q6_111 : Cond.laysFinal RX7 RX7 "order" "[I" ∈ gU := gt_6 _ (List.mem_of_getElem? (i := 111) rfl) rfl
theorem q6_113 : Cond.laysFinal RX7 RX7 "chain" "[I" ∈ gU := gt_6 _ (List.mem_of_getElem? (i := 113) rfl) rfl
theorem q6_116 : Cond.methodLink RL 205 yX7_thrown ∈ gU := gt_6 _ (List.mem_of_getElem? (i := 116) rfl) rfl
theorem q6_117 : Cond.instanceMethod yX7_thrown ∈ gU := gt_6 _ (List.mem_of_getElem? (i := 117) rfl) rfl
theorem q6_118 : Cond.selects RX7 yX7_thrown yX7_thrown ∈ gU := gt_6 _ (List.mem_of_getElem? (i := 118) rfl) rfl
theorem q6_119 : Cond.code yX7_thrown cX7_thrown 1 (some .int) ∈ gU := gt_6 _ (List.mem_of_getElem? (i := 119) rfl) rfl
theorem q6_120 : Cond.methodLink RL 204 yX7_openTicket ∈ gU := gt_6 _ (List.mem_of_getElem? (i := 120) rfl) rfl
theorem q6_121 : Cond.instanceMethod yX7_openTicket ∈ gU := gt_6 _ (List.mem_of_getElem? (i := 121) rfl) rfl
theorem q6_122 : Cond.selects RX7 yX7_openTicket yX7_openTicket ∈ gU := gt_6 _ (List.mem_of_getElem? (i := 122) rfl) rfl
theorem q6_123 : Cond.code yX7_openTicket cX7_openTicket 3 (some .int) ∈ gU := gt_6 _ (List.mem_of_getElem? (i := 123) rfl) rfl
theorem q6_124 : Cond.methodLink RX7 42 yX7_in ∈ gU := gt_6 _ (List.mem_of_getElem? (i := 124) rfl) rfl
theorem q6_125 : Cond.static yX7_in ∈ gU := gt_6 _ (List.mem_of_getElem? (i := 125) rfl) rfl
theorem q6_126 : Cond.code yX7_in cX7_in 3 (some .boolean) ∈ gU := gt_6 _ (List.mem_of_getElem? (i := 126) rfl) rfl
theorem q6_127 : Cond.methodLink RX7 76 yX7_fails ∈ gU := gt_6 _ (List.mem_of_getElem? (i := 127) rfl) rfl
theorem q6_129 : Cond.instanceMethod yX7_fails ∈ gU := gt_6 _ (List.mem_of_getElem? (i := 129) rfl) rfl
theorem q6_130 : Cond.code yX7_fails cX7_fails 2 (some .int) ∈ gU := gt_6 _ (List.mem_of_getElem? (i := 130) rfl) rfl
theorem q6_131 : Cond.methodLink RX7 79 yX7_records ∈ gU := gt_6 _ (List.mem_of_getElem? (i := 131) rfl) rfl
theorem q6_133 : Cond.instanceMethod yX7_records ∈ gU := gt_6 _ (List.mem_of_getElem? (i := 133) rfl) rfl
theorem q6_134 : Cond.code yX7_records cX7_records 2 none ∈ gU := gt_6 _ (List.mem_of_getElem? (i := 134) rfl) rfl
theorem q6_135 : Cond.methodLink RX7 82 yX7_opens ∈ gU := gt_6 _ (List.mem_of_getElem? (i := 135) rfl) rfl
theorem q6_137 : Cond.instanceMethod yX7_opens ∈ gU := gt_6 _ (List.mem_of_getElem? (i := 137) rfl) rfl
theorem q6_138 : Cond.code yX7_opens cX7_opens 4 (some .int) ∈ gU := gt_6 _ (List.mem_of_getElem? (i := 138) rfl) rfl
theorem q6_139 : Cond.methodLink RX7 72 yX7_lay ∈ gU := gt_6 _ (List.mem_of_getElem? (i := 139) rfl) rfl
theorem q6_141 : Cond.instanceMethod yX7_lay ∈ gU := gt_6 _ (List.mem_of_getElem? (i := 141) rfl) rfl
theorem q6_142 : Cond.code yX7_lay cX7_lay 4 none ∈ gU := gt_6 _ (List.mem_of_getElem? (i := 142) rfl) rfl
theorem q6_143 : Cond.methodLink RL 210 yX7_reestimate ∈ gU := gt_6 _ (List.mem_of_getElem? (i := 143) rfl) rfl
theorem q6_144 : Cond.instanceMethod yX7_reestimate ∈ gU := gt_6 _ (List.mem_of_getElem? (i := 144) rfl) rfl
theorem q6_145 : Cond.selects RX7 yX7_reestimate yX7_reestimate ∈ gU := gt_6 _ (List.mem_of_getElem? (i := 145) rfl) rfl
theorem q6_146 : Cond.code yX7_reestimate cX7_reestimate 4 (some .int) ∈ gU := gt_6 _ (List.mem_of_getElem? (i := 146) rfl) rfl
theorem q6_147 : Cond.methodLink RX7 85 yX7_isTicket ∈ gU := gt_6 _ (List.mem_of_getElem? (i := 147) rfl) rfl
theorem q6_149 : Cond.instanceMethod yX7_isTicket ∈ gU := gt_6 _ (List.mem_of_getElem? (i := 149) rfl) rfl
theorem q6_150 : Cond.code yX7_isTicket cX7_isTicket 2 (some .boolean) ∈ gU := gt_6 _ (List.mem_of_getElem? (i := 150) rfl) rfl
theorem q6_151 : Cond.methodLink RX7 49 yX7_of ∈ gU := gt_6 _ (List.mem_of_getElem? (i := 151) rfl) rfl
theorem q6_153 : Cond.instanceMethod yX7_of ∈ gU := gt_6 _ (List.mem_of_getElem? (i := 153) rfl) rfl
theorem q6_154 : Cond.code yX7_of cX7_of 3 (some .int) ∈ gU := gt_6 _ (List.mem_of_getElem? (i := 154) rfl) rfl
theorem q6_155 : Cond.methodLink RX7 53 yX7_isLeft ∈ gU := gt_6 _ (List.mem_of_getElem? (i := 155) rfl) rfl
theorem q6_157 : Cond.instanceMethod yX7_isLeft ∈ gU := gt_6 _ (List.mem_of_getElem? (i := 157) rfl) rfl
theorem q6_158 : Cond.code yX7_isLeft cX7_isLeft 2 (some .boolean) ∈ gU := gt_6 _ (List.mem_of_getElem? (i := 158) rfl) rfl
theorem q6_159 : Cond.methodLink RX7 88 yX7_canTake ∈ gU := gt_6 _ (List.mem_of_getElem? (i := 159) rfl) rfl
theorem q6_161 : Cond.instanceMethod yX7_canTake ∈ gU := gt_6 _ (List.mem_of_getElem? (i := 161) rfl) rfl
theorem q6_162 : Cond.code yX7_canTake cX7_canTake 3 (some .boolean) ∈ gU := gt_6 _ (List.mem_of_getElem? (i := 162) rfl) rfl
theorem q6_163 : Cond.methodLink RX7 69 yX7_load ∈ gU := gt_6 _ (List.mem_of_getElem? (i := 163) rfl) rfl
theorem q6_165 : Cond.instanceMethod yX7_load ∈ gU := gt_6 _ (List.mem_of_getElem? (i := 165) rfl) rfl
theorem q6_166 : Cond.code yX7_load cX7_load 4 (some .int) ∈ gU := gt_6 _ (List.mem_of_getElem? (i := 166) rfl) rfl
theorem q6_167 : Cond.methodLink RL 213 yX7_changePriority ∈ gU := gt_6 _ (List.mem_of_getElem? (i := 167) rfl) rfl
theorem q6_168 : Cond.instanceMethod yX7_changePriority ∈ gU := gt_6 _ (List.mem_of_getElem? (i := 168) rfl) rfl
theorem q6_169 : Cond.selects RX7 yX7_changePriority yX7_changePriority ∈ gU := gt_6 _ (List.mem_of_getElem? (i := 169) rfl) rfl
theorem q6_170 : Cond.code yX7_changePriority cX7_changePriority 4 (some .int) ∈ gU := gt_6 _ (List.mem_of_getElem? (i := 170) rfl) rfl
theorem q6_171 : Cond.methodLink RL 216 yX7_need ∈ gU := gt_6 _ (List.mem_of_getElem? (i := 171) rfl) rfl
theorem q6_172 : Cond.instanceMethod yX7_need ∈ gU := gt_6 _ (List.mem_of_getElem? (i := 172) rfl) rfl
theorem q6_173 : Cond.selects RX7 yX7_need yX7_need ∈ gU := gt_6 _ (List.mem_of_getElem? (i := 173) rfl) rfl
theorem q6_174 : Cond.code yX7_need cX7_need 3 (some .int) ∈ gU := gt_6 _ (List.mem_of_getElem? (i := 174) rfl) rfl
theorem q6_175 : Cond.methodLink RX7 101 yX7_canNeed ∈ gU := gt_6 _ (List.mem_of_getElem? (i := 175) rfl) rfl
theorem q6_177 : Cond.instanceMethod yX7_canNeed ∈ gU := gt_6 _ (List.mem_of_getElem? (i := 177) rfl) rfl
theorem q6_178 : Cond.code yX7_canNeed cX7_canNeed 3 (some .boolean) ∈ gU := gt_6 _ (List.mem_of_getElem? (i := 178) rfl) rfl
theorem q6_179 : Cond.methodLink RX7 92 yX7_needsIt ∈ gU := gt_6 _ (List.mem_of_getElem? (i := 179) rfl) rfl
theorem q6_181 : Cond.instanceMethod yX7_needsIt ∈ gU := gt_6 _ (List.mem_of_getElem? (i := 181) rfl) rfl
theorem q6_182 : Cond.code yX7_needsIt cX7_needsIt 3 (some .boolean) ∈ gU := gt_6 _ (List.mem_of_getElem? (i := 182) rfl) rfl
theorem q6_183 : Cond.methodLink RX7 95 yX7_allNeeds ∈ gU := gt_6 _ (List.mem_of_getElem? (i := 183) rfl) rfl
theorem q6_185 : Cond.instanceMethod yX7_allNeeds ∈ gU := gt_6 _ (List.mem_of_getElem? (i := 185) rfl) rfl
theorem q6_186 : Cond.code yX7_allNeeds cX7_allNeeds 5 (some .int) ∈ gU := gt_6 _ (List.mem_of_getElem? (i := 186) rfl) rfl
theorem q6_187 : Cond.methodLink RX7 104 yX7_takesNeed ∈ gU := gt_6 _ (List.mem_of_getElem? (i := 187) rfl) rfl
theorem q6_189 : Cond.instanceMethod yX7_takesNeed ∈ gU := gt_6 _ (List.mem_of_getElem? (i := 189) rfl) rfl
theorem q6_190 : Cond.code yX7_takesNeed cX7_takesNeed 3 (some .int) ∈ gU := gt_6 _ (List.mem_of_getElem? (i := 190) rfl) rfl
theorem q6_191 : Cond.methodLink RX7 98 yX7_bits ∈ gU := gt_6 _ (List.mem_of_getElem? (i := 191) rfl) rfl
theorem q6_192 : Cond.static yX7_bits ∈ gU := gt_6 _ (List.mem_of_getElem? (i := 192) rfl) rfl
theorem q6_193 : Cond.code yX7_bits cX7_bits 3 (some .int) ∈ gU := gt_6 _ (List.mem_of_getElem? (i := 193) rfl) rfl
theorem q6_194 : Cond.methodLink RL 219 yX7_release ∈ gU := gt_6 _ (List.mem_of_getElem? (i := 194) rfl) rfl
theorem q6_195 : Cond.instanceMethod yX7_release ∈ gU := gt_6 _ (List.mem_of_getElem? (i := 195) rfl) rfl
theorem q6_196 : Cond.selects RX7 yX7_release yX7_release ∈ gU := gt_6 _ (List.mem_of_getElem? (i := 196) rfl) rfl
theorem q6_197 : Cond.code yX7_release cX7_release 3 (some .int) ∈ gU := gt_6 _ (List.mem_of_getElem? (i := 197) rfl) rfl
theorem q6_198 : Cond.methodLink RL 222 yX7_assign ∈ gU := gt_6 _ (List.mem_of_getElem? (i := 198) rfl) rfl
theorem q6_199 : Cond.instanceMethod yX7_assign ∈ gU := gt_6 _ (List.mem_of_getElem? (i := 199) rfl) rfl
theorem q6_200 : Cond.selects RX7 yX7_assign yX7_assign ∈ gU := gt_6 _ (List.mem_of_getElem? (i := 200) rfl) rfl
theorem q6_201 : Cond.code yX7_assign cX7_assign 3 (some .int) ∈ gU := gt_6 _ (List.mem_of_getElem? (i := 201) rfl) rfl
theorem q6_202 : Cond.methodLink RX7 107 yX7_isOwner ∈ gU := gt_6 _ (List.mem_of_getElem? (i := 202) rfl) rfl
theorem q6_203 : Cond.static yX7_isOwner ∈ gU := gt_6 _ (List.mem_of_getElem? (i := 203) rfl) rfl
theorem q6_204 : Cond.code yX7_isOwner cX7_isOwner 1 (some .boolean) ∈ gU := gt_6 _ (List.mem_of_getElem? (i := 204) rfl) rfl
theorem q6_205 : Cond.methodLink RX7 110 yX7_canAssign ∈ gU := gt_6 _ (List.mem_of_getElem? (i := 205) rfl) rfl
theorem q6_207 : Cond.instanceMethod yX7_canAssign ∈ gU := gt_6 _ (List.mem_of_getElem? (i := 207) rfl) rfl
theorem q6_208 : Cond.code yX7_canAssign cX7_canAssign 3 (some .boolean) ∈ gU := gt_6 _ (List.mem_of_getElem? (i := 208) rfl) rfl
theorem q6_209 : Cond.methodLink RX7 113 yX7_assigns ∈ gU := gt_6 _ (List.mem_of_getElem? (i := 209) rfl) rfl
theorem q6_211 : Cond.instanceMethod yX7_assigns ∈ gU := gt_6 _ (List.mem_of_getElem? (i := 211) rfl) rfl
theorem q6_212 : Cond.code yX7_assigns cX7_assigns 3 (some .int) ∈ gU := gt_6 _ (List.mem_of_getElem? (i := 212) rfl) rfl
theorem q6_213 : Cond.methodLink RL 226 yX7_unassign ∈ gU := gt_6 _ (List.mem_of_getElem? (i := 213) rfl) rfl
theorem q6_214 : Cond.instanceMethod yX7_unassign ∈ gU := gt_6 _ (List.mem_of_getElem? (i := 214) rfl) rfl
theorem q6_215 : Cond.selects RX7 yX7_unassign yX7_unassign ∈ gU := gt_6 _ (List.mem_of_getElem? (i := 215) rfl) rfl
theorem q6_216 : Cond.code yX7_unassign cX7_unassign 3 (some .int) ∈ gU := gt_6 _ (List.mem_of_getElem? (i := 216) rfl) rfl
theorem q6_217 : Cond.methodLink RL 229 yX7_changeCapacity ∈ gU := gt_6 _ (List.mem_of_getElem? (i := 217) rfl) rfl
theorem q6_218 : Cond.instanceMethod yX7_changeCapacity ∈ gU := gt_6 _ (List.mem_of_getElem? (i := 218) rfl) rfl
theorem q6_219 : Cond.selects RX7 yX7_changeCapacity yX7_changeCapacity ∈ gU := gt_6 _ (List.mem_of_getElem? (i := 219) rfl) rfl
theorem q6_220 : Cond.code yX7_changeCapacity cX7_changeCapacity 4 (some .int) ∈ gU := gt_6 _ (List.mem_of_getElem? (i := 220) rfl) rfl
theorem q6_221 : Cond.methodLink RL 232 yX7_plan ∈ gU := gt_6 _ (List.mem_of_getElem? (i := 221) rfl) rfl
theorem q6_222 : Cond.instanceMethod yX7_plan ∈ gU := gt_6 _ (List.mem_of_getElem? (i := 222) rfl) rfl
theorem q6_223 : Cond.selects RX7 yX7_plan yX7_plan ∈ gU := gt_6 _ (List.mem_of_getElem? (i := 223) rfl) rfl
theorem q6_224 : Cond.code yX7_plan cX7_plan 3 (some .int) ∈ gU := gt_6 _ (List.mem_of_getElem? (i := 224) rfl) rfl
theorem q6_225 : Cond.methodLink RX7 116 yX7_isMilestone ∈ gU := gt_6 _ (List.mem_of_getElem? (i := 225) rfl) rfl
theorem q6_226 : Cond.static yX7_isMilestone ∈ gU := gt_6 _ (List.mem_of_getElem? (i := 226) rfl) rfl
theorem q6_227 : Cond.code yX7_isMilestone cX7_isMilestone 1 (some .boolean) ∈ gU := gt_6 _ (List.mem_of_getElem? (i := 227) rfl) rfl
theorem q6_228 : Cond.methodLink RX7 119 yX7_leftFor ∈ gU := gt_6 _ (List.mem_of_getElem? (i := 228) rfl) rfl
theorem q6_230 : Cond.instanceMethod yX7_leftFor ∈ gU := gt_6 _ (List.mem_of_getElem? (i := 230) rfl) rfl
theorem q6_231 : Cond.code yX7_leftFor cX7_leftFor 4 (some .int) ∈ gU := gt_6 _ (List.mem_of_getElem? (i := 231) rfl) rfl
theorem q6_232 : Cond.methodLink RL 235 yX7_unplan ∈ gU := gt_6 _ (List.mem_of_getElem? (i := 232) rfl) rfl
theorem q6_233 : Cond.instanceMethod yX7_unplan ∈ gU := gt_6 _ (List.mem_of_getElem? (i := 233) rfl) rfl
theorem q6_234 : Cond.selects RX7 yX7_unplan yX7_unplan ∈ gU := gt_6 _ (List.mem_of_getElem? (i := 234) rfl) rfl
theorem q6_235 : Cond.code yX7_unplan cX7_unplan 3 (some .int) ∈ gU := gt_6 _ (List.mem_of_getElem? (i := 235) rfl) rfl
theorem q6_236 : Cond.methodLink RL 238 yX7_changeDate ∈ gU := gt_6 _ (List.mem_of_getElem? (i := 236) rfl) rfl
theorem q6_237 : Cond.instanceMethod yX7_changeDate ∈ gU := gt_6 _ (List.mem_of_getElem? (i := 237) rfl) rfl
theorem q6_238 : Cond.selects RX7 yX7_changeDate yX7_changeDate ∈ gU := gt_6 _ (List.mem_of_getElem? (i := 238) rfl) rfl
theorem q6_239 : Cond.code yX7_changeDate cX7_changeDate 4 (some .int) ∈ gU := gt_6 _ (List.mem_of_getElem? (i := 239) rfl) rfl
theorem q7_0 : Cond.methodLink RL 241 yX7_endDays ∈ gU := gt_7 _ (List.mem_of_getElem? (i := 0) rfl) rfl
theorem q7_1 : Cond.instanceMethod yX7_endDays ∈ gU := gt_7 _ (List.mem_of_getElem? (i := 1) rfl) rfl
theorem q7_2 : Cond.selects RX7 yX7_endDays yX7_endDays ∈ gU := gt_7 _ (List.mem_of_getElem? (i := 2) rfl) rfl
theorem q7_3 : Cond.code yX7_endDays cX7_endDays 2 (some .int) ∈ gU := gt_7 _ (List.mem_of_getElem? (i := 3) rfl) rfl
theorem q7_4 : Cond.methodLink RX7 122 yX7_ends ∈ gU := gt_7 _ (List.mem_of_getElem? (i := 4) rfl) rfl
theorem q7_6 : Cond.instanceMethod yX7_ends ∈ gU := gt_7 _ (List.mem_of_getElem? (i := 6) rfl) rfl
theorem q7_7 : Cond.code yX7_ends cX7_ends 3 (some .int) ∈ gU := gt_7 _ (List.mem_of_getElem? (i := 7) rfl) rfl
theorem q7_8 : Cond.methodLink RL 245 yX7_start ∈ gU := gt_7 _ (List.mem_of_getElem? (i := 8) rfl) rfl
theorem q7_9 : Cond.instanceMethod yX7_start ∈ gU := gt_7 _ (List.mem_of_getElem? (i := 9) rfl) rfl
theorem q7_10 : Cond.selects RX7 yX7_start yX7_start ∈ gU := gt_7 _ (List.mem_of_getElem? (i := 10) rfl) rfl
theorem q7_11 : Cond.code yX7_start cX7_start 2 none ∈ gU := gt_7 _ (List.mem_of_getElem? (i := 11) rfl) rfl
theorem q7_12 : Cond.methodLink RX7 125 yX7_canStart ∈ gU := gt_7 _ (List.mem_of_getElem? (i := 12) rfl) rfl
theorem q7_14 : Cond.instanceMethod yX7_canStart ∈ gU := gt_7 _ (List.mem_of_getElem? (i := 14) rfl) rfl
theorem q7_15 : Cond.code yX7_canStart cX7_canStart 2 (some .boolean) ∈ gU := gt_7 _ (List.mem_of_getElem? (i := 15) rfl) rfl
theorem q7_16 : Cond.methodLink RL 248 yX7_submit ∈ gU := gt_7 _ (List.mem_of_getElem? (i := 16) rfl) rfl
theorem q7_17 : Cond.instanceMethod yX7_submit ∈ gU := gt_7 _ (List.mem_of_getElem? (i := 17) rfl) rfl
theorem q7_18 : Cond.selects RX7 yX7_submit yX7_submit ∈ gU := gt_7 _ (List.mem_of_getElem? (i := 18) rfl) rfl
theorem q7_19 : Cond.code yX7_submit cX7_submit 2 none ∈ gU := gt_7 _ (List.mem_of_getElem? (i := 19) rfl) rfl
theorem q7_20 : Cond.methodLink RL 251 yX7_sendBack ∈ gU := gt_7 _ (List.mem_of_getElem? (i := 20) rfl) rfl
theorem q7_21 : Cond.instanceMethod yX7_sendBack ∈ gU := gt_7 _ (List.mem_of_getElem? (i := 21) rfl) rfl
theorem q7_22 : Cond.selects RX7 yX7_sendBack yX7_sendBack ∈ gU := gt_7 _ (List.mem_of_getElem? (i := 22) rfl) rfl
theorem q7_23 : Cond.code yX7_sendBack cX7_sendBack 2 (some .int) ∈ gU := gt_7 _ (List.mem_of_getElem? (i := 23) rfl) rfl
theorem q7_24 : Cond.methodLink RL 254 yX7_close ∈ gU := gt_7 _ (List.mem_of_getElem? (i := 24) rfl) rfl
theorem q7_25 : Cond.instanceMethod yX7_close ∈ gU := gt_7 _ (List.mem_of_getElem? (i := 25) rfl) rfl
theorem q7_26 : Cond.selects RX7 yX7_close yX7_close ∈ gU := gt_7 _ (List.mem_of_getElem? (i := 26) rfl) rfl
theorem q7_27 : Cond.code yX7_close cX7_close 2 (some .int) ∈ gU := gt_7 _ (List.mem_of_getElem? (i := 27) rfl) rfl
theorem q7_28 : Cond.methodLink RX7 131 yX7_canClose ∈ gU := gt_7 _ (List.mem_of_getElem? (i := 28) rfl) rfl
theorem q7_30 : Cond.instanceMethod yX7_canClose ∈ gU := gt_7 _ (List.mem_of_getElem? (i := 30) rfl) rfl
theorem q7_31 : Cond.code yX7_canClose cX7_canClose 2 (some .boolean) ∈ gU := gt_7 _ (List.mem_of_getElem? (i := 31) rfl) rfl
theorem q7_32 : Cond.methodLink RX7 61 yX7_blockers ∈ gU := gt_7 _ (List.mem_of_getElem? (i := 32) rfl) rfl
theorem q7_34 : Cond.instanceMethod yX7_blockers ∈ gU := gt_7 _ (List.mem_of_getElem? (i := 34) rfl) rfl
theorem q7_35 : Cond.code yX7_blockers cX7_blockers 2 (some .int) ∈ gU := gt_7 _ (List.mem_of_getElem? (i := 35) rfl) rfl
theorem q7_36 : Cond.methodLink RX7 57 yX7_left ∈ gU := gt_7 _ (List.mem_of_getElem? (i := 36) rfl) rfl
theorem q7_38 : Cond.instanceMethod yX7_left ∈ gU := gt_7 _ (List.mem_of_getElem? (i := 38) rfl) rfl
theorem q7_39 : Cond.code yX7_left cX7_left 3 (some .int) ∈ gU := gt_7 _ (List.mem_of_getElem? (i := 39) rfl) rfl
theorem q7_40 : Cond.methodLink RX7 134 yX7_closes ∈ gU := gt_7 _ (List.mem_of_getElem? (i := 40) rfl) rfl
theorem q7_42 : Cond.instanceMethod yX7_closes ∈ gU := gt_7 _ (List.mem_of_getElem? (i := 42) rfl) rfl
theorem q7_43 : Cond.code yX7_closes cX7_closes 3 (some .int) ∈ gU := gt_7 _ (List.mem_of_getElem? (i := 43) rfl) rfl
theorem q7_44 : Cond.methodLink RX7 128 yX7_blocked ∈ gU := gt_7 _ (List.mem_of_getElem? (i := 44) rfl) rfl
theorem q7_46 : Cond.instanceMethod yX7_blocked ∈ gU := gt_7 _ (List.mem_of_getElem? (i := 46) rfl) rfl
theorem q7_47 : Cond.code yX7_blocked cX7_blocked 3 (some .int) ∈ gU := gt_7 _ (List.mem_of_getElem? (i := 47) rfl) rfl
theorem q7_48 : Cond.methodLink RL 257 yX7_reopen ∈ gU := gt_7 _ (List.mem_of_getElem? (i := 48) rfl) rfl
theorem q7_49 : Cond.instanceMethod yX7_reopen ∈ gU := gt_7 _ (List.mem_of_getElem? (i := 49) rfl) rfl
theorem q7_50 : Cond.selects RX7 yX7_reopen yX7_reopen ∈ gU := gt_7 _ (List.mem_of_getElem? (i := 50) rfl) rfl
theorem q7_51 : Cond.code yX7_reopen cX7_reopen 3 (some .int) ∈ gU := gt_7 _ (List.mem_of_getElem? (i := 51) rfl) rfl
theorem q7_52 : Cond.methodLink RX7 137 yX7_canReopen ∈ gU := gt_7 _ (List.mem_of_getElem? (i := 52) rfl) rfl
theorem q7_54 : Cond.instanceMethod yX7_canReopen ∈ gU := gt_7 _ (List.mem_of_getElem? (i := 54) rfl) rfl
theorem q7_55 : Cond.code yX7_canReopen cX7_canReopen 4 (some .boolean) ∈ gU := gt_7 _ (List.mem_of_getElem? (i := 55) rfl) rfl
theorem q7_56 : Cond.methodLink RL 260 yX7_drop ∈ gU := gt_7 _ (List.mem_of_getElem? (i := 56) rfl) rfl
theorem q7_57 : Cond.instanceMethod yX7_drop ∈ gU := gt_7 _ (List.mem_of_getElem? (i := 57) rfl) rfl
theorem q7_58 : Cond.selects RX7 yX7_drop yX7_drop ∈ gU := gt_7 _ (List.mem_of_getElem? (i := 58) rfl) rfl
theorem q7_59 : Cond.code yX7_drop cX7_drop 3 (some .int) ∈ gU := gt_7 _ (List.mem_of_getElem? (i := 59) rfl) rfl
theorem q7_60 : Cond.methodLink RL 263 yX7_append ∈ gU := gt_7 _ (List.mem_of_getElem? (i := 60) rfl) rfl
theorem q7_61 : Cond.instanceMethod yX7_append ∈ gU := gt_7 _ (List.mem_of_getElem? (i := 61) rfl) rfl
theorem q7_62 : Cond.selects RX7 yX7_append yX7_append ∈ gU := gt_7 _ (List.mem_of_getElem? (i := 62) rfl) rfl
theorem q7_63 : Cond.code yX7_append cX7_append 2 (some .int) ∈ gU := gt_7 _ (List.mem_of_getElem? (i := 63) rfl) rfl
theorem q7_64 : Cond.methodLink RL 267 yX7_clearBuffer ∈ gU := gt_7 _ (List.mem_of_getElem? (i := 64) rfl) rfl
theorem q7_65 : Cond.instanceMethod yX7_clearBuffer ∈ gU := gt_7 _ (List.mem_of_getElem? (i := 65) rfl) rfl
theorem q7_66 : Cond.selects RX7 yX7_clearBuffer yX7_clearBuffer ∈ gU := gt_7 _ (List.mem_of_getElem? (i := 66) rfl) rfl
theorem q7_67 : Cond.code yX7_clearBuffer cX7_clearBuffer 2 (some .int) ∈ gU := gt_7 _ (List.mem_of_getElem? (i := 67) rfl) rfl
theorem q7_68 : Cond.methodLink RL 271 yX7_firstError ∈ gU := gt_7 _ (List.mem_of_getElem? (i := 68) rfl) rfl
theorem q7_69 : Cond.instanceMethod yX7_firstError ∈ gU := gt_7 _ (List.mem_of_getElem? (i := 69) rfl) rfl
theorem q7_70 : Cond.selects RX7 yX7_firstError yX7_firstError ∈ gU := gt_7 _ (List.mem_of_getElem? (i := 70) rfl) rfl
theorem q7_71 : Cond.code yX7_firstError cX7_firstError 1 (some .int) ∈ gU := gt_7 _ (List.mem_of_getElem? (i := 71) rfl) rfl
theorem q7_72 : Cond.methodLink RX7 168 yX7_readsOrders ∈ gU := gt_7 _ (List.mem_of_getElem? (i := 72) rfl) rfl
theorem q7_74 : Cond.instanceMethod yX7_readsOrders ∈ gU := gt_7 _ (List.mem_of_getElem? (i := 74) rfl) rfl
theorem q7_75 : Cond.code yX7_readsOrders cX7_readsOrders 1 (some .boolean) ∈ gU := gt_7 _ (List.mem_of_getElem? (i := 75) rfl) rfl
theorem q7_76 : Cond.methodLink RX7 165 yX7_readsOrder ∈ gU := gt_7 _ (List.mem_of_getElem? (i := 76) rfl) rfl
theorem q7_78 : Cond.instanceMethod yX7_readsOrder ∈ gU := gt_7 _ (List.mem_of_getElem? (i := 78) rfl) rfl
theorem q7_79 : Cond.code yX7_readsOrder cX7_readsOrder 3 none ∈ gU := gt_7 _ (List.mem_of_getElem? (i := 79) rfl) rfl
theorem q7_80 : Cond.methodLink RX7 150 yX7_sign ∈ gU := gt_7 _ (List.mem_of_getElem? (i := 80) rfl) rfl
theorem q7_82 : Cond.instanceMethod yX7_sign ∈ gU := gt_7 _ (List.mem_of_getElem? (i := 82) rfl) rfl
theorem q7_83 : Cond.code yX7_sign cX7_sign 1 (some .int) ∈ gU := gt_7 _ (List.mem_of_getElem? (i := 83) rfl) rfl
theorem q7_84 : Cond.methodLink RX7 159 yX7_isOrder ∈ gU := gt_7 _ (List.mem_of_getElem? (i := 84) rfl) rfl
theorem q7_85 : Cond.static yX7_isOrder ∈ gU := gt_7 _ (List.mem_of_getElem? (i := 85) rfl) rfl
theorem q7_86 : Cond.code yX7_isOrder cX7_isOrder 1 (some .boolean) ∈ gU := gt_7 _ (List.mem_of_getElem? (i := 86) rfl) rfl
theorem q7_87 : Cond.methodLink RX7 162 yX7_number ∈ gU := gt_7 _ (List.mem_of_getElem? (i := 87) rfl) rfl
theorem q7_89 : Cond.instanceMethod yX7_number ∈ gU := gt_7 _ (List.mem_of_getElem? (i := 89) rfl) rfl
theorem q7_90 : Cond.code yX7_number cX7_number 4 (some .int) ∈ gU := gt_7 _ (List.mem_of_getElem? (i := 90) rfl) rfl
theorem q7_91 : Cond.methodLink RX7 153 yX7_reads ∈ gU := gt_7 _ (List.mem_of_getElem? (i := 91) rfl) rfl
theorem q7_93 : Cond.instanceMethod yX7_reads ∈ gU := gt_7 _ (List.mem_of_getElem? (i := 93) rfl) rfl
theorem q7_94 : Cond.code yX7_reads cX7_reads 4 (some .int) ∈ gU := gt_7 _ (List.mem_of_getElem? (i := 94) rfl) rfl
theorem q7_95 : Cond.methodLink RL 275 yX7_follow ∈ gU := gt_7 _ (List.mem_of_getElem? (i := 95) rfl) rfl
theorem q7_96 : Cond.instanceMethod yX7_follow ∈ gU := gt_7 _ (List.mem_of_getElem? (i := 96) rfl) rfl
theorem q7_97 : Cond.selects RX7 yX7_follow yX7_follow ∈ gU := gt_7 _ (List.mem_of_getElem? (i := 97) rfl) rfl
theorem q7_98 : Cond.code yX7_follow cX7_follow 3 (some .int) ∈ gU := gt_7 _ (List.mem_of_getElem? (i := 98) rfl) rfl
theorem q7_99 : Cond.methodLink RX7 179 yX7_putAside ∈ gU := gt_7 _ (List.mem_of_getElem? (i := 99) rfl) rfl
theorem q7_101 : Cond.instanceMethod yX7_putAside ∈ gU := gt_7 _ (List.mem_of_getElem? (i := 101) rfl) rfl
theorem q7_102 : Cond.code yX7_putAside cX7_putAside 2 none ∈ gU := gt_7 _ (List.mem_of_getElem? (i := 102) rfl) rfl
theorem q7_103 : Cond.methodLink RX7 182 yX7_followsAll ∈ gU := gt_7 _ (List.mem_of_getElem? (i := 103) rfl) rfl
theorem q7_105 : Cond.instanceMethod yX7_followsAll ∈ gU := gt_7 _ (List.mem_of_getElem? (i := 105) rfl) rfl
theorem q7_106 : Cond.code yX7_followsAll cX7_followsAll 2 (some .int) ∈ gU := gt_7 _ (List.mem_of_getElem? (i := 106) rfl) rfl
theorem q7_107 : Cond.methodLink RX7 172 yX7_can ∈ gU := gt_7 _ (List.mem_of_getElem? (i := 107) rfl) rfl
theorem q7_109 : Cond.instanceMethod yX7_can ∈ gU := gt_7 _ (List.mem_of_getElem? (i := 109) rfl) rfl
theorem q7_110 : Cond.code yX7_can cX7_can 4 (some .boolean) ∈ gU := gt_7 _ (List.mem_of_getElem? (i := 110) rfl) rfl
theorem q7_111 : Cond.methodLink RX7 175 yX7_follows ∈ gU := gt_7 _ (List.mem_of_getElem? (i := 111) rfl) rfl
theorem q7_113 : Cond.instanceMethod yX7_follows ∈ gU := gt_7 _ (List.mem_of_getElem? (i := 113) rfl) rfl
theorem q7_114 : Cond.code yX7_follows cX7_follows 3 none ∈ gU := gt_7 _ (List.mem_of_getElem? (i := 114) rfl) rfl
theorem q7_115 : Cond.methodLink RX7 185 yX7_takeBack ∈ gU := gt_7 _ (List.mem_of_getElem? (i := 115) rfl) rfl
theorem q7_117 : Cond.instanceMethod yX7_takeBack ∈ gU := gt_7 _ (List.mem_of_getElem? (i := 117) rfl) rfl
theorem q7_118 : Cond.code yX7_takeBack cX7_takeBack 2 none ∈ gU := gt_7 _ (List.mem_of_getElem? (i := 118) rfl) rfl
theorem q7_119 : Cond.methodLink RL 278 yX7_impossibleOrder ∈ gU := gt_7 _ (List.mem_of_getElem? (i := 119) rfl) rfl
theorem q7_120 : Cond.instanceMethod yX7_impossibleOrder ∈ gU := gt_7 _ (List.mem_of_getElem? (i := 120) rfl) rfl
theorem q7_121 : Cond.selects RX7 yX7_impossibleOrder yX7_impossibleOrder ∈ gU := gt_7 _ (List.mem_of_getElem? (i := 121) rfl) rfl
theorem q7_122 : Cond.code yX7_impossibleOrder cX7_impossibleOrder 2 (some .int) ∈ gU := gt_7 _ (List.mem_of_getElem? (i := 122) rfl) rfl
theorem q7_123 : Cond.methodLink RL 281 yX7_keep ∈ gU := gt_7 _ (List.mem_of_getElem? (i := 123) rfl) rfl
theorem q7_124 : Cond.instanceMethod yX7_keep ∈ gU := gt_7 _ (List.mem_of_getElem? (i := 124) rfl) rfl
theorem q7_125 : Cond.selects RX7 yX7_keep yX7_keep ∈ gU := gt_7 _ (List.mem_of_getElem? (i := 125) rfl) rfl
theorem q7_126 : Cond.code yX7_keep cX7_keep 3 none ∈ gU := gt_7 _ (List.mem_of_getElem? (i := 126) rfl) rfl
theorem q7_127 : Cond.methodLink RL 284 yX7_goBack ∈ gU := gt_7 _ (List.mem_of_getElem? (i := 127) rfl) rfl
theorem q7_128 : Cond.instanceMethod yX7_goBack ∈ gU := gt_7 _ (List.mem_of_getElem? (i := 128) rfl) rfl
theorem q7_129 : Cond.selects RX7 yX7_goBack yX7_goBack ∈ gU := gt_7 _ (List.mem_of_getElem? (i := 129) rfl) rfl
theorem q7_130 : Cond.code yX7_goBack cX7_goBack 3 none ∈ gU := gt_7 _ (List.mem_of_getElem? (i := 130) rfl) rfl
theorem q7_131 : Cond.methodLink RL 288 yX7_undo ∈ gU := gt_7 _ (List.mem_of_getElem? (i := 131) rfl) rfl
theorem q7_132 : Cond.instanceMethod yX7_undo ∈ gU := gt_7 _ (List.mem_of_getElem? (i := 132) rfl) rfl
theorem q7_133 : Cond.selects RX7 yX7_undo yX7_undo ∈ gU := gt_7 _ (List.mem_of_getElem? (i := 133) rfl) rfl
theorem q7_134 : Cond.code yX7_undo cX7_undo 2 none ∈ gU := gt_7 _ (List.mem_of_getElem? (i := 134) rfl) rfl
theorem q7_135 : Cond.methodLink RL 292 yX7_savedStates ∈ gU := gt_7 _ (List.mem_of_getElem? (i := 135) rfl) rfl
theorem q7_136 : Cond.instanceMethod yX7_savedStates ∈ gU := gt_7 _ (List.mem_of_getElem? (i := 136) rfl) rfl
theorem q7_137 : Cond.selects RX7 yX7_savedStates yX7_savedStates ∈ gU := gt_7 _ (List.mem_of_getElem? (i := 137) rfl) rfl
theorem q7_138 : Cond.code yX7_savedStates cX7_savedStates 1 (some .int) ∈ gU := gt_7 _ (List.mem_of_getElem? (i := 138) rfl) rfl
theorem q7_139 : Cond.methodLink RL 296 yX7_tickets ∈ gU := gt_7 _ (List.mem_of_getElem? (i := 139) rfl) rfl
theorem q7_140 : Cond.instanceMethod yX7_tickets ∈ gU := gt_7 _ (List.mem_of_getElem? (i := 140) rfl) rfl
theorem q7_141 : Cond.selects RX7 yX7_tickets yX7_tickets ∈ gU := gt_7 _ (List.mem_of_getElem? (i := 141) rfl) rfl
theorem q7_142 : Cond.code yX7_tickets cX7_tickets 1 (some .int) ∈ gU := gt_7 _ (List.mem_of_getElem? (i := 142) rfl) rfl
theorem q7_143 : Cond.methodLink RL 299 yX7_stateOf ∈ gU := gt_7 _ (List.mem_of_getElem? (i := 143) rfl) rfl
theorem q7_144 : Cond.instanceMethod yX7_stateOf ∈ gU := gt_7 _ (List.mem_of_getElem? (i := 144) rfl) rfl
theorem q7_145 : Cond.selects RX7 yX7_stateOf yX7_stateOf ∈ gU := gt_7 _ (List.mem_of_getElem? (i := 145) rfl) rfl
theorem q7_146 : Cond.code yX7_stateOf cX7_stateOf 2 (some .int) ∈ gU := gt_7 _ (List.mem_of_getElem? (i := 146) rfl) rfl
theorem q7_147 : Cond.methodLink RX7 188 yX7_tells ∈ gU := gt_7 _ (List.mem_of_getElem? (i := 147) rfl) rfl
theorem q7_149 : Cond.instanceMethod yX7_tells ∈ gU := gt_7 _ (List.mem_of_getElem? (i := 149) rfl) rfl
theorem q7_150 : Cond.code yX7_tells cX7_tells 3 (some .int) ∈ gU := gt_7 _ (List.mem_of_getElem? (i := 150) rfl) rfl
theorem q7_151 : Cond.methodLink RL 302 yX7_pointsOf ∈ gU := gt_7 _ (List.mem_of_getElem? (i := 151) rfl) rfl
theorem q7_152 : Cond.instanceMethod yX7_pointsOf ∈ gU := gt_7 _ (List.mem_of_getElem? (i := 152) rfl) rfl
theorem q7_153 : Cond.selects RX7 yX7_pointsOf yX7_pointsOf ∈ gU := gt_7 _ (List.mem_of_getElem? (i := 153) rfl) rfl
theorem q7_154 : Cond.code yX7_pointsOf cX7_pointsOf 2 (some .int) ∈ gU := gt_7 _ (List.mem_of_getElem? (i := 154) rfl) rfl
theorem q7_155 : Cond.methodLink RL 305 yX7_priorityOf ∈ gU := gt_7 _ (List.mem_of_getElem? (i := 155) rfl) rfl
theorem q7_156 : Cond.instanceMethod yX7_priorityOf ∈ gU := gt_7 _ (List.mem_of_getElem? (i := 156) rfl) rfl
theorem q7_157 : Cond.selects RX7 yX7_priorityOf yX7_priorityOf ∈ gU := gt_7 _ (List.mem_of_getElem? (i := 157) rfl) rfl
theorem q7_158 : Cond.code yX7_priorityOf cX7_priorityOf 2 (some .int) ∈ gU := gt_7 _ (List.mem_of_getElem? (i := 158) rfl) rfl
theorem q7_159 : Cond.methodLink RL 308 yX7_hasOwner ∈ gU := gt_7 _ (List.mem_of_getElem? (i := 159) rfl) rfl
theorem q7_160 : Cond.instanceMethod yX7_hasOwner ∈ gU := gt_7 _ (List.mem_of_getElem? (i := 160) rfl) rfl
theorem q7_161 : Cond.selects RX7 yX7_hasOwner yX7_hasOwner ∈ gU := gt_7 _ (List.mem_of_getElem? (i := 161) rfl) rfl
theorem q7_162 : Cond.code yX7_hasOwner cX7_hasOwner 2 (some .boolean) ∈ gU := gt_7 _ (List.mem_of_getElem? (i := 162) rfl) rfl
theorem q7_163 : Cond.methodLink RL 311 yX7_ownerOf ∈ gU := gt_7 _ (List.mem_of_getElem? (i := 163) rfl) rfl
theorem q7_164 : Cond.instanceMethod yX7_ownerOf ∈ gU := gt_7 _ (List.mem_of_getElem? (i := 164) rfl) rfl
theorem q7_165 : Cond.selects RX7 yX7_ownerOf yX7_ownerOf ∈ gU := gt_7 _ (List.mem_of_getElem? (i := 165) rfl) rfl
theorem q7_166 : Cond.code yX7_ownerOf cX7_ownerOf 3 (some .int) ∈ gU := gt_7 _ (List.mem_of_getElem? (i := 166) rfl) rfl
theorem q7_167 : Cond.methodLink RL 314 yX7_isPlanned ∈ gU := gt_7 _ (List.mem_of_getElem? (i := 167) rfl) rfl
theorem q7_168 : Cond.instanceMethod yX7_isPlanned ∈ gU := gt_7 _ (List.mem_of_getElem? (i := 168) rfl) rfl
theorem q7_169 : Cond.selects RX7 yX7_isPlanned yX7_isPlanned ∈ gU := gt_7 _ (List.mem_of_getElem? (i := 169) rfl) rfl
theorem q7_170 : Cond.code yX7_isPlanned cX7_isPlanned 2 (some .boolean) ∈ gU := gt_7 _ (List.mem_of_getElem? (i := 170) rfl) rfl
theorem q7_171 : Cond.methodLink RL 317 yX7_milestoneOf ∈ gU := gt_7 _ (List.mem_of_getElem? (i := 171) rfl) rfl
theorem q7_172 : Cond.instanceMethod yX7_milestoneOf ∈ gU := gt_7 _ (List.mem_of_getElem? (i := 172) rfl) rfl
theorem q7_173 : Cond.selects RX7 yX7_milestoneOf yX7_milestoneOf ∈ gU := gt_7 _ (List.mem_of_getElem? (i := 173) rfl) rfl
theorem q7_174 : Cond.code yX7_milestoneOf cX7_milestoneOf 3 (some .int) ∈ gU := gt_7 _ (List.mem_of_getElem? (i := 174) rfl) rfl
theorem q7_175 : Cond.methodLink RL 320 yX7_openedOn ∈ gU := gt_7 _ (List.mem_of_getElem? (i := 175) rfl) rfl
theorem q7_176 : Cond.instanceMethod yX7_openedOn ∈ gU := gt_7 _ (List.mem_of_getElem? (i := 176) rfl) rfl
theorem q7_177 : Cond.selects RX7 yX7_openedOn yX7_openedOn ∈ gU := gt_7 _ (List.mem_of_getElem? (i := 177) rfl) rfl
theorem q7_178 : Cond.code yX7_openedOn cX7_openedOn 2 (some .int) ∈ gU := gt_7 _ (List.mem_of_getElem? (i := 178) rfl) rfl
theorem q7_179 : Cond.methodLink RL 323 yX7_closedOn ∈ gU := gt_7 _ (List.mem_of_getElem? (i := 179) rfl) rfl
theorem q7_180 : Cond.instanceMethod yX7_closedOn ∈ gU := gt_7 _ (List.mem_of_getElem? (i := 180) rfl) rfl
theorem q7_181 : Cond.selects RX7 yX7_closedOn yX7_closedOn ∈ gU := gt_7 _ (List.mem_of_getElem? (i := 181) rfl) rfl
theorem q7_182 : Cond.code yX7_closedOn cX7_closedOn 3 (some .int) ∈ gU := gt_7 _ (List.mem_of_getElem? (i := 182) rfl) rfl
theorem q7_183 : Cond.methodLink RL 326 yX7_daysInProgress ∈ gU := gt_7 _ (List.mem_of_getElem? (i := 183) rfl) rfl
theorem q7_184 : Cond.instanceMethod yX7_daysInProgress ∈ gU := gt_7 _ (List.mem_of_getElem? (i := 184) rfl) rfl
theorem q7_185 : Cond.selects RX7 yX7_daysInProgress yX7_daysInProgress ∈ gU := gt_7 _ (List.mem_of_getElem? (i := 185) rfl) rfl
theorem q7_186 : Cond.code yX7_daysInProgress cX7_daysInProgress 2 (some .int) ∈ gU := gt_7 _ (List.mem_of_getElem? (i := 186) rfl) rfl
theorem q7_187 : Cond.methodLink RL 329 yX7_timesSentBack ∈ gU := gt_7 _ (List.mem_of_getElem? (i := 187) rfl) rfl
theorem q7_188 : Cond.instanceMethod yX7_timesSentBack ∈ gU := gt_7 _ (List.mem_of_getElem? (i := 188) rfl) rfl
theorem q7_189 : Cond.selects RX7 yX7_timesSentBack yX7_timesSentBack ∈ gU := gt_7 _ (List.mem_of_getElem? (i := 189) rfl) rfl
theorem q7_190 : Cond.code yX7_timesSentBack cX7_timesSentBack 2 (some .int) ∈ gU := gt_7 _ (List.mem_of_getElem? (i := 190) rfl) rfl
theorem q7_191 : Cond.methodLink RL 332 yX7_needs ∈ gU := gt_7 _ (List.mem_of_getElem? (i := 191) rfl) rfl
theorem q7_192 : Cond.instanceMethod yX7_needs ∈ gU := gt_7 _ (List.mem_of_getElem? (i := 192) rfl) rfl
theorem q7_193 : Cond.selects RX7 yX7_needs yX7_needs ∈ gU := gt_7 _ (List.mem_of_getElem? (i := 193) rfl) rfl
theorem q7_194 : Cond.code yX7_needs cX7_needs 3 (some .boolean) ∈ gU := gt_7 _ (List.mem_of_getElem? (i := 194) rfl) rfl
theorem q7_195 : Cond.methodLink RL 335 yX7_needsOf ∈ gU := gt_7 _ (List.mem_of_getElem? (i := 195) rfl) rfl
theorem q7_196 : Cond.instanceMethod yX7_needsOf ∈ gU := gt_7 _ (List.mem_of_getElem? (i := 196) rfl) rfl
theorem q7_197 : Cond.selects RX7 yX7_needsOf yX7_needsOf ∈ gU := gt_7 _ (List.mem_of_getElem? (i := 197) rfl) rfl
theorem q7_198 : Cond.code yX7_needsOf cX7_needsOf 2 (some .int) ∈ gU := gt_7 _ (List.mem_of_getElem? (i := 198) rfl) rfl
theorem q7_199 : Cond.methodLink RL 338 yX7_neededBy ∈ gU := gt_7 _ (List.mem_of_getElem? (i := 199) rfl) rfl
theorem q7_200 : Cond.instanceMethod yX7_neededBy ∈ gU := gt_7 _ (List.mem_of_getElem? (i := 200) rfl) rfl
theorem q7_201 : Cond.selects RX7 yX7_neededBy yX7_neededBy ∈ gU := gt_7 _ (List.mem_of_getElem? (i := 201) rfl) rfl
theorem q7_202 : Cond.code yX7_neededBy cX7_neededBy 4 (some .int) ∈ gU := gt_7 _ (List.mem_of_getElem? (i := 202) rfl) rfl
theorem q7_203 : Cond.methodLink RL 341 yX7_isBlocked ∈ gU := gt_7 _ (List.mem_of_getElem? (i := 203) rfl) rfl
theorem q7_204 : Cond.instanceMethod yX7_isBlocked ∈ gU := gt_7 _ (List.mem_of_getElem? (i := 204) rfl) rfl
theorem q7_205 : Cond.selects RX7 yX7_isBlocked yX7_isBlocked ∈ gU := gt_7 _ (List.mem_of_getElem? (i := 205) rfl) rfl
theorem q7_206 : Cond.code yX7_isBlocked cX7_isBlocked 2 (some .boolean) ∈ gU := gt_7 _ (List.mem_of_getElem? (i := 206) rfl) rfl
theorem q7_207 : Cond.methodLink RL 344 yX7_blockersOf ∈ gU := gt_7 _ (List.mem_of_getElem? (i := 207) rfl) rfl
theorem q7_208 : Cond.instanceMethod yX7_blockersOf ∈ gU := gt_7 _ (List.mem_of_getElem? (i := 208) rfl) rfl
theorem q7_209 : Cond.selects RX7 yX7_blockersOf yX7_blockersOf ∈ gU := gt_7 _ (List.mem_of_getElem? (i := 209) rfl) rfl
theorem q7_210 : Cond.code yX7_blockersOf cX7_blockersOf 2 (some .int) ∈ gU := gt_7 _ (List.mem_of_getElem? (i := 210) rfl) rfl
theorem q7_211 : Cond.methodLink RL 347 yX7_allNeedsByGoing ∈ gU := gt_7 _ (List.mem_of_getElem? (i := 211) rfl) rfl
theorem q7_212 : Cond.instanceMethod yX7_allNeedsByGoing ∈ gU := gt_7 _ (List.mem_of_getElem? (i := 212) rfl) rfl
theorem q7_213 : Cond.selects RX7 yX7_allNeedsByGoing yX7_allNeedsByGoing ∈ gU := gt_7 _ (List.mem_of_getElem? (i := 213) rfl) rfl
theorem q7_214 : Cond.code yX7_allNeedsByGoing cX7_allNeedsByGoing 2 (some .int) ∈ gU := gt_7 _ (List.mem_of_getElem? (i := 214) rfl) rfl
theorem q7_215 : Cond.methodLink RL 350 yX7_allNeedsByTable ∈ gU := gt_7 _ (List.mem_of_getElem? (i := 215) rfl) rfl
theorem q7_216 : Cond.instanceMethod yX7_allNeedsByTable ∈ gU := gt_7 _ (List.mem_of_getElem? (i := 216) rfl) rfl
theorem q7_217 : Cond.selects RX7 yX7_allNeedsByTable yX7_allNeedsByTable ∈ gU := gt_7 _ (List.mem_of_getElem? (i := 217) rfl) rfl
theorem q7_218 : Cond.code yX7_allNeedsByTable cX7_allNeedsByTable 2 (some .int) ∈ gU := gt_7 _ (List.mem_of_getElem? (i := 218) rfl) rfl
theorem q7_219 : Cond.methodLink RL 353 yX7_chainOf ∈ gU := gt_7 _ (List.mem_of_getElem? (i := 219) rfl) rfl
theorem q7_220 : Cond.instanceMethod yX7_chainOf ∈ gU := gt_7 _ (List.mem_of_getElem? (i := 220) rfl) rfl
theorem q7_221 : Cond.selects RX7 yX7_chainOf yX7_chainOf ∈ gU := gt_7 _ (List.mem_of_getElem? (i := 221) rfl) rfl
theorem q7_222 : Cond.code yX7_chainOf cX7_chainOf 2 (some .int) ∈ gU := gt_7 _ (List.mem_of_getElem? (i := 222) rfl) rfl
theorem q7_223 : Cond.methodLink RX7 191 yX7_chainFrom ∈ gU := gt_7 _ (List.mem_of_getElem? (i := 223) rfl) rfl
theorem q7_225 : Cond.instanceMethod yX7_chainFrom ∈ gU := gt_7 _ (List.mem_of_getElem? (i := 225) rfl) rfl
theorem q7_226 : Cond.code yX7_chainFrom cX7_chainFrom 2 (some .int) ∈ gU := gt_7 _ (List.mem_of_getElem? (i := 226) rfl) rfl
theorem q7_227 : Cond.methodLink RX7 65 yX7_tellsChains ∈ gU := gt_7 _ (List.mem_of_getElem? (i := 227) rfl) rfl
theorem q7_229 : Cond.instanceMethod yX7_tellsChains ∈ gU := gt_7 _ (List.mem_of_getElem? (i := 229) rfl) rfl
theorem q7_230 : Cond.code yX7_tellsChains cX7_tellsChains 7 none ∈ gU := gt_7 _ (List.mem_of_getElem? (i := 230) rfl) rfl
theorem q7_231 : Cond.methodLink RL 357 yX7_criticalByTrying ∈ gU := gt_7 _ (List.mem_of_getElem? (i := 231) rfl) rfl
theorem q7_232 : Cond.instanceMethod yX7_criticalByTrying ∈ gU := gt_7 _ (List.mem_of_getElem? (i := 232) rfl) rfl
theorem q7_233 : Cond.selects RX7 yX7_criticalByTrying yX7_criticalByTrying ∈ gU := gt_7 _ (List.mem_of_getElem? (i := 233) rfl) rfl
theorem q7_234 : Cond.code yX7_criticalByTrying cX7_criticalByTrying 1 (some .int) ∈ gU := gt_7 _ (List.mem_of_getElem? (i := 234) rfl) rfl
theorem q7_235 : Cond.methodLink RX7 194 yX7_critical ∈ gU := gt_7 _ (List.mem_of_getElem? (i := 235) rfl) rfl
theorem q7_237 : Cond.instanceMethod yX7_critical ∈ gU := gt_7 _ (List.mem_of_getElem? (i := 237) rfl) rfl
theorem q7_238 : Cond.code yX7_critical cX7_critical 3 (some .int) ∈ gU := gt_7 _ (List.mem_of_getElem? (i := 238) rfl) rfl
theorem q7_239 : Cond.methodLink RL 361 yX7_criticalByOrder ∈ gU := gt_7 _ (List.mem_of_getElem? (i := 239) rfl) rfl
theorem q8_0 : Cond.instanceMethod yX7_criticalByOrder ∈ gU := gt_8 _ (List.mem_of_getElem? (i := 0) rfl) rfl
theorem q8_1 : Cond.selects RX7 yX7_criticalByOrder yX7_criticalByOrder ∈ gU := gt_8 _ (List.mem_of_getElem? (i := 1) rfl) rfl
theorem q8_2 : Cond.code yX7_criticalByOrder cX7_criticalByOrder 1 (some .int) ∈ gU := gt_8 _ (List.mem_of_getElem? (i := 2) rfl) rfl
theorem q8_3 : Cond.methodLink RL 364 yX7_capacityOf ∈ gU := gt_8 _ (List.mem_of_getElem? (i := 3) rfl) rfl
theorem q8_4 : Cond.instanceMethod yX7_capacityOf ∈ gU := gt_8 _ (List.mem_of_getElem? (i := 4) rfl) rfl
theorem q8_5 : Cond.selects RX7 yX7_capacityOf yX7_capacityOf ∈ gU := gt_8 _ (List.mem_of_getElem? (i := 5) rfl) rfl
theorem q8_6 : Cond.code yX7_capacityOf cX7_capacityOf 2 (some .int) ∈ gU := gt_8 _ (List.mem_of_getElem? (i := 6) rfl) rfl
theorem q8_7 : Cond.methodLink RL 367 yX7_loadByTickets ∈ gU := gt_8 _ (List.mem_of_getElem? (i := 7) rfl) rfl
theorem q8_8 : Cond.instanceMethod yX7_loadByTickets ∈ gU := gt_8 _ (List.mem_of_getElem? (i := 8) rfl) rfl
theorem q8_9 : Cond.selects RX7 yX7_loadByTickets yX7_loadByTickets ∈ gU := gt_8 _ (List.mem_of_getElem? (i := 9) rfl) rfl
theorem q8_10 : Cond.code yX7_loadByTickets cX7_loadByTickets 2 (some .int) ∈ gU := gt_8 _ (List.mem_of_getElem? (i := 10) rfl) rfl
theorem q8_11 : Cond.methodLink RL 370 yX7_loadByAccount ∈ gU := gt_8 _ (List.mem_of_getElem? (i := 11) rfl) rfl
theorem q8_12 : Cond.instanceMethod yX7_loadByAccount ∈ gU := gt_8 _ (List.mem_of_getElem? (i := 12) rfl) rfl
theorem q8_13 : Cond.selects RX7 yX7_loadByAccount yX7_loadByAccount ∈ gU := gt_8 _ (List.mem_of_getElem? (i := 13) rfl) rfl
theorem q8_14 : Cond.code yX7_loadByAccount cX7_loadByAccount 2 (some .int) ∈ gU := gt_8 _ (List.mem_of_getElem? (i := 14) rfl) rfl
theorem q8_15 : Cond.methodLink RL 373 yX7_inProgressOf ∈ gU := gt_8 _ (List.mem_of_getElem? (i := 15) rfl) rfl
theorem q8_16 : Cond.instanceMethod yX7_inProgressOf ∈ gU := gt_8 _ (List.mem_of_getElem? (i := 16) rfl) rfl
theorem q8_17 : Cond.selects RX7 yX7_inProgressOf yX7_inProgressOf ∈ gU := gt_8 _ (List.mem_of_getElem? (i := 17) rfl) rfl
theorem q8_18 : Cond.code yX7_inProgressOf cX7_inProgressOf 2 (some .int) ∈ gU := gt_8 _ (List.mem_of_getElem? (i := 18) rfl) rfl
theorem q8_19 : Cond.methodLink RX7 197 yX7_progressOf ∈ gU := gt_8 _ (List.mem_of_getElem? (i := 19) rfl) rfl
theorem q8_21 : Cond.instanceMethod yX7_progressOf ∈ gU := gt_8 _ (List.mem_of_getElem? (i := 21) rfl) rfl
theorem q8_22 : Cond.code yX7_progressOf cX7_progressOf 4 (some .int) ∈ gU := gt_8 _ (List.mem_of_getElem? (i := 22) rfl) rfl
theorem q8_23 : Cond.methodLink RL 376 yX7_donePointsOf ∈ gU := gt_8 _ (List.mem_of_getElem? (i := 23) rfl) rfl
theorem q8_24 : Cond.instanceMethod yX7_donePointsOf ∈ gU := gt_8 _ (List.mem_of_getElem? (i := 24) rfl) rfl
theorem q8_25 : Cond.selects RX7 yX7_donePointsOf yX7_donePointsOf ∈ gU := gt_8 _ (List.mem_of_getElem? (i := 25) rfl) rfl
theorem q8_26 : Cond.code yX7_donePointsOf cX7_donePointsOf 2 (some .int) ∈ gU := gt_8 _ (List.mem_of_getElem? (i := 26) rfl) rfl
theorem q8_27 : Cond.methodLink RX7 200 yX7_doneOf ∈ gU := gt_8 _ (List.mem_of_getElem? (i := 27) rfl) rfl
theorem q8_29 : Cond.instanceMethod yX7_doneOf ∈ gU := gt_8 _ (List.mem_of_getElem? (i := 29) rfl) rfl
theorem q8_30 : Cond.code yX7_doneOf cX7_doneOf 4 (some .int) ∈ gU := gt_8 _ (List.mem_of_getElem? (i := 30) rfl) rfl
theorem q8_31 : Cond.methodLink RL 380 yX7_freestOwner ∈ gU := gt_8 _ (List.mem_of_getElem? (i := 31) rfl) rfl
theorem q8_32 : Cond.instanceMethod yX7_freestOwner ∈ gU := gt_8 _ (List.mem_of_getElem? (i := 32) rfl) rfl
theorem q8_33 : Cond.selects RX7 yX7_freestOwner yX7_freestOwner ∈ gU := gt_8 _ (List.mem_of_getElem? (i := 33) rfl) rfl
theorem q8_34 : Cond.code yX7_freestOwner cX7_freestOwner 1 (some .int) ∈ gU := gt_8 _ (List.mem_of_getElem? (i := 34) rfl) rfl
theorem q8_35 : Cond.methodLink RX7 203 yX7_freest ∈ gU := gt_8 _ (List.mem_of_getElem? (i := 35) rfl) rfl
theorem q8_37 : Cond.instanceMethod yX7_freest ∈ gU := gt_8 _ (List.mem_of_getElem? (i := 37) rfl) rfl
theorem q8_38 : Cond.code yX7_freest cX7_freest 3 (some .int) ∈ gU := gt_8 _ (List.mem_of_getElem? (i := 38) rfl) rfl
theorem q8_39 : Cond.methodLink RL 383 yX7_dateOf ∈ gU := gt_8 _ (List.mem_of_getElem? (i := 39) rfl) rfl
theorem q8_40 : Cond.instanceMethod yX7_dateOf ∈ gU := gt_8 _ (List.mem_of_getElem? (i := 40) rfl) rfl
theorem q8_41 : Cond.selects RX7 yX7_dateOf yX7_dateOf ∈ gU := gt_8 _ (List.mem_of_getElem? (i := 41) rfl) rfl
theorem q8_42 : Cond.code yX7_dateOf cX7_dateOf 2 (some .int) ∈ gU := gt_8 _ (List.mem_of_getElem? (i := 42) rfl) rfl
theorem q8_43 : Cond.methodLink RL 386 yX7_pointsLeft ∈ gU := gt_8 _ (List.mem_of_getElem? (i := 43) rfl) rfl
theorem q8_44 : Cond.instanceMethod yX7_pointsLeft ∈ gU := gt_8 _ (List.mem_of_getElem? (i := 44) rfl) rfl
theorem q8_45 : Cond.selects RX7 yX7_pointsLeft yX7_pointsLeft ∈ gU := gt_8 _ (List.mem_of_getElem? (i := 45) rfl) rfl
theorem q8_46 : Cond.code yX7_pointsLeft cX7_pointsLeft 2 (some .int) ∈ gU := gt_8 _ (List.mem_of_getElem? (i := 46) rfl) rfl
theorem q8_47 : Cond.methodLink RL 389 yX7_pointsDone ∈ gU := gt_8 _ (List.mem_of_getElem? (i := 47) rfl) rfl
theorem q8_48 : Cond.instanceMethod yX7_pointsDone ∈ gU := gt_8 _ (List.mem_of_getElem? (i := 48) rfl) rfl
theorem q8_49 : Cond.selects RX7 yX7_pointsDone yX7_pointsDone ∈ gU := gt_8 _ (List.mem_of_getElem? (i := 49) rfl) rfl
theorem q8_50 : Cond.code yX7_pointsDone cX7_pointsDone 2 (some .int) ∈ gU := gt_8 _ (List.mem_of_getElem? (i := 50) rfl) rfl
theorem q8_51 : Cond.methodLink RX7 206 yX7_doneFor ∈ gU := gt_8 _ (List.mem_of_getElem? (i := 51) rfl) rfl
theorem q8_53 : Cond.instanceMethod yX7_doneFor ∈ gU := gt_8 _ (List.mem_of_getElem? (i := 53) rfl) rfl
theorem q8_54 : Cond.code yX7_doneFor cX7_doneFor 4 (some .int) ∈ gU := gt_8 _ (List.mem_of_getElem? (i := 54) rfl) rfl
theorem q8_55 : Cond.methodLink RL 392 yX7_hundredthsDone ∈ gU := gt_8 _ (List.mem_of_getElem? (i := 55) rfl) rfl
theorem q8_56 : Cond.instanceMethod yX7_hundredthsDone ∈ gU := gt_8 _ (List.mem_of_getElem? (i := 56) rfl) rfl
theorem q8_57 : Cond.selects RX7 yX7_hundredthsDone yX7_hundredthsDone ∈ gU := gt_8 _ (List.mem_of_getElem? (i := 57) rfl) rfl
theorem q8_58 : Cond.code yX7_hundredthsDone cX7_hundredthsDone 2 (some .int) ∈ gU := gt_8 _ (List.mem_of_getElem? (i := 58) rfl) rfl
theorem q8_59 : Cond.methodLink RX7 209 yX7_hundredths ∈ gU := gt_8 _ (List.mem_of_getElem? (i := 59) rfl) rfl
theorem q8_61 : Cond.instanceMethod yX7_hundredths ∈ gU := gt_8 _ (List.mem_of_getElem? (i := 61) rfl) rfl
theorem q8_62 : Cond.code yX7_hundredths cX7_hundredths 3 (some .int) ∈ gU := gt_8 _ (List.mem_of_getElem? (i := 62) rfl) rfl
theorem q8_63 : Cond.methodLink RL 395 yX7_isLate ∈ gU := gt_8 _ (List.mem_of_getElem? (i := 63) rfl) rfl
theorem q8_64 : Cond.instanceMethod yX7_isLate ∈ gU := gt_8 _ (List.mem_of_getElem? (i := 64) rfl) rfl
theorem q8_65 : Cond.selects RX7 yX7_isLate yX7_isLate ∈ gU := gt_8 _ (List.mem_of_getElem? (i := 65) rfl) rfl
theorem q8_66 : Cond.code yX7_isLate cX7_isLate 2 (some .boolean) ∈ gU := gt_8 _ (List.mem_of_getElem? (i := 66) rfl) rfl
theorem q8_67 : Cond.methodLink RX7 212 yX7_late ∈ gU := gt_8 _ (List.mem_of_getElem? (i := 67) rfl) rfl
theorem q8_69 : Cond.instanceMethod yX7_late ∈ gU := gt_8 _ (List.mem_of_getElem? (i := 69) rfl) rfl
theorem q8_70 : Cond.code yX7_late cX7_late 2 (some .boolean) ∈ gU := gt_8 _ (List.mem_of_getElem? (i := 70) rfl) rfl
theorem q8_71 : Cond.methodLink RL 398 yX7_misplanned ∈ gU := gt_8 _ (List.mem_of_getElem? (i := 71) rfl) rfl
theorem q8_72 : Cond.instanceMethod yX7_misplanned ∈ gU := gt_8 _ (List.mem_of_getElem? (i := 72) rfl) rfl
theorem q8_73 : Cond.selects RX7 yX7_misplanned yX7_misplanned ∈ gU := gt_8 _ (List.mem_of_getElem? (i := 73) rfl) rfl
theorem q8_74 : Cond.code yX7_misplanned cX7_misplanned 2 (some .int) ∈ gU := gt_8 _ (List.mem_of_getElem? (i := 74) rfl) rfl
theorem q8_75 : Cond.methodLink RX7 218 yX7_misplannedOf ∈ gU := gt_8 _ (List.mem_of_getElem? (i := 75) rfl) rfl
theorem q8_77 : Cond.instanceMethod yX7_misplannedOf ∈ gU := gt_8 _ (List.mem_of_getElem? (i := 77) rfl) rfl
theorem q8_78 : Cond.code yX7_misplannedOf cX7_misplannedOf 6 (some .int) ∈ gU := gt_8 _ (List.mem_of_getElem? (i := 78) rfl) rfl
theorem q8_79 : Cond.methodLink RX7 215 yX7_isBehind ∈ gU := gt_8 _ (List.mem_of_getElem? (i := 79) rfl) rfl
theorem q8_81 : Cond.instanceMethod yX7_isBehind ∈ gU := gt_8 _ (List.mem_of_getElem? (i := 81) rfl) rfl
theorem q8_82 : Cond.code yX7_isBehind cX7_isBehind 3 (some .boolean) ∈ gU := gt_8 _ (List.mem_of_getElem? (i := 82) rfl) rfl
theorem q8_83 : Cond.methodLink RL 402 yX7_lateMilestones ∈ gU := gt_8 _ (List.mem_of_getElem? (i := 83) rfl) rfl
theorem q8_84 : Cond.instanceMethod yX7_lateMilestones ∈ gU := gt_8 _ (List.mem_of_getElem? (i := 84) rfl) rfl
theorem q8_85 : Cond.selects RX7 yX7_lateMilestones yX7_lateMilestones ∈ gU := gt_8 _ (List.mem_of_getElem? (i := 85) rfl) rfl
theorem q8_86 : Cond.code yX7_lateMilestones cX7_lateMilestones 3 (some .int) ∈ gU := gt_8 _ (List.mem_of_getElem? (i := 86) rfl) rfl
theorem q8_87 : Cond.methodLink RL 405 yX7_nextToDo ∈ gU := gt_8 _ (List.mem_of_getElem? (i := 87) rfl) rfl
theorem q8_88 : Cond.instanceMethod yX7_nextToDo ∈ gU := gt_8 _ (List.mem_of_getElem? (i := 88) rfl) rfl
theorem q8_89 : Cond.selects RX7 yX7_nextToDo yX7_nextToDo ∈ gU := gt_8 _ (List.mem_of_getElem? (i := 89) rfl) rfl
theorem q8_90 : Cond.code yX7_nextToDo cX7_nextToDo 2 (some .int) ∈ gU := gt_8 _ (List.mem_of_getElem? (i := 90) rfl) rfl
theorem q8_91 : Cond.methodLink RX7 227 yX7_next ∈ gU := gt_8 _ (List.mem_of_getElem? (i := 91) rfl) rfl
theorem q8_93 : Cond.instanceMethod yX7_next ∈ gU := gt_8 _ (List.mem_of_getElem? (i := 93) rfl) rfl
theorem q8_94 : Cond.code yX7_next cX7_next 3 (some .int) ∈ gU := gt_8 _ (List.mem_of_getElem? (i := 94) rfl) rfl
theorem q8_95 : Cond.methodLink RX7 224 yX7_firstOf ∈ gU := gt_8 _ (List.mem_of_getElem? (i := 95) rfl) rfl
theorem q8_97 : Cond.instanceMethod yX7_firstOf ∈ gU := gt_8 _ (List.mem_of_getElem? (i := 97) rfl) rfl
theorem q8_98 : Cond.code yX7_firstOf cX7_firstOf 4 (some .int) ∈ gU := gt_8 _ (List.mem_of_getElem? (i := 98) rfl) rfl
theorem q8_99 : Cond.methodLink RX7 221 yX7_isAhead ∈ gU := gt_8 _ (List.mem_of_getElem? (i := 99) rfl) rfl
theorem q8_101 : Cond.instanceMethod yX7_isAhead ∈ gU := gt_8 _ (List.mem_of_getElem? (i := 101) rfl) rfl
theorem q8_102 : Cond.code yX7_isAhead cX7_isAhead 3 (some .boolean) ∈ gU := gt_8 _ (List.mem_of_getElem? (i := 102) rfl) rfl
theorem q8_103 : Cond.methodLink RL 408 yX7_closedAt ∈ gU := gt_8 _ (List.mem_of_getElem? (i := 103) rfl) rfl
theorem q8_104 : Cond.instanceMethod yX7_closedAt ∈ gU := gt_8 _ (List.mem_of_getElem? (i := 104) rfl) rfl
theorem q8_105 : Cond.selects RX7 yX7_closedAt yX7_closedAt ∈ gU := gt_8 _ (List.mem_of_getElem? (i := 105) rfl) rfl
theorem q8_106 : Cond.code yX7_closedAt cX7_closedAt 3 (some .int) ∈ gU := gt_8 _ (List.mem_of_getElem? (i := 106) rfl) rfl
theorem q8_107 : Cond.methodLink RX7 230 yX7_tellsOrder ∈ gU := gt_8 _ (List.mem_of_getElem? (i := 107) rfl) rfl
theorem q8_109 : Cond.instanceMethod yX7_tellsOrder ∈ gU := gt_8 _ (List.mem_of_getElem? (i := 109) rfl) rfl
theorem q8_110 : Cond.code yX7_tellsOrder cX7_tellsOrder 5 (some .int) ∈ gU := gt_8 _ (List.mem_of_getElem? (i := 110) rfl) rfl
theorem q8_111 : Cond.methodLink RL 412 yX7_day ∈ gU := gt_8 _ (List.mem_of_getElem? (i := 111) rfl) rfl
theorem q8_112 : Cond.instanceMethod yX7_day ∈ gU := gt_8 _ (List.mem_of_getElem? (i := 112) rfl) rfl
theorem q8_113 : Cond.selects RX7 yX7_day yX7_day ∈ gU := gt_8 _ (List.mem_of_getElem? (i := 113) rfl) rfl
theorem q8_114 : Cond.code yX7_day cX7_day 1 (some .int) ∈ gU := gt_8 _ (List.mem_of_getElem? (i := 114) rfl) rfl
theorem q8_115 : Cond.methodLink RL 415 yX7_withState ∈ gU := gt_8 _ (List.mem_of_getElem? (i := 115) rfl) rfl
theorem q8_116 : Cond.instanceMethod yX7_withState ∈ gU := gt_8 _ (List.mem_of_getElem? (i := 116) rfl) rfl
theorem q8_117 : Cond.selects RX7 yX7_withState yX7_withState ∈ gU := gt_8 _ (List.mem_of_getElem? (i := 117) rfl) rfl
theorem q8_118 : Cond.code yX7_withState cX7_withState 2 (some .int) ∈ gU := gt_8 _ (List.mem_of_getElem? (i := 118) rfl) rfl
theorem q8_119 : Cond.methodLink RX7 233 yX7_sumWith ∈ gU := gt_8 _ (List.mem_of_getElem? (i := 119) rfl) rfl
theorem q8_121 : Cond.instanceMethod yX7_sumWith ∈ gU := gt_8 _ (List.mem_of_getElem? (i := 121) rfl) rfl
theorem q8_122 : Cond.code yX7_sumWith cX7_sumWith 5 (some .int) ∈ gU := gt_8 _ (List.mem_of_getElem? (i := 122) rfl) rfl
theorem q8_123 : Cond.methodLink RL 418 yX7_pointsWith ∈ gU := gt_8 _ (List.mem_of_getElem? (i := 123) rfl) rfl
theorem q8_124 : Cond.instanceMethod yX7_pointsWith ∈ gU := gt_8 _ (List.mem_of_getElem? (i := 124) rfl) rfl
theorem q8_125 : Cond.selects RX7 yX7_pointsWith yX7_pointsWith ∈ gU := gt_8 _ (List.mem_of_getElem? (i := 125) rfl) rfl
theorem q8_126 : Cond.code yX7_pointsWith cX7_pointsWith 2 (some .int) ∈ gU := gt_8 _ (List.mem_of_getElem? (i := 126) rfl) rfl
theorem q8_127 : Cond.methodLink RL 422 yX7_allPoints ∈ gU := gt_8 _ (List.mem_of_getElem? (i := 127) rfl) rfl
theorem q8_128 : Cond.instanceMethod yX7_allPoints ∈ gU := gt_8 _ (List.mem_of_getElem? (i := 128) rfl) rfl
theorem q8_129 : Cond.selects RX7 yX7_allPoints yX7_allPoints ∈ gU := gt_8 _ (List.mem_of_getElem? (i := 129) rfl) rfl
theorem q8_130 : Cond.code yX7_allPoints cX7_allPoints 3 (some .int) ∈ gU := gt_8 _ (List.mem_of_getElem? (i := 130) rfl) rfl
theorem q8_131 : Cond.methodLink RL 426 yX7_blockedTickets ∈ gU := gt_8 _ (List.mem_of_getElem? (i := 131) rfl) rfl
theorem q8_132 : Cond.instanceMethod yX7_blockedTickets ∈ gU := gt_8 _ (List.mem_of_getElem? (i := 132) rfl) rfl
theorem q8_133 : Cond.selects RX7 yX7_blockedTickets yX7_blockedTickets ∈ gU := gt_8 _ (List.mem_of_getElem? (i := 133) rfl) rfl
theorem q8_134 : Cond.code yX7_blockedTickets cX7_blockedTickets 1 (some .int) ∈ gU := gt_8 _ (List.mem_of_getElem? (i := 134) rfl) rfl
theorem q8_135 : Cond.methodLink RX7 237 yX7_blockedMany ∈ gU := gt_8 _ (List.mem_of_getElem? (i := 135) rfl) rfl
theorem q8_137 : Cond.instanceMethod yX7_blockedMany ∈ gU := gt_8 _ (List.mem_of_getElem? (i := 137) rfl) rfl
theorem q8_138 : Cond.code yX7_blockedMany cX7_blockedMany 1 (some .int) ∈ gU := gt_8 _ (List.mem_of_getElem? (i := 138) rfl) rfl
theorem q8_139 : Cond.methodLink RL 430 yX7_closings ∈ gU := gt_8 _ (List.mem_of_getElem? (i := 139) rfl) rfl
theorem q8_140 : Cond.instanceMethod yX7_closings ∈ gU := gt_8 _ (List.mem_of_getElem? (i := 140) rfl) rfl
theorem q8_141 : Cond.selects RX7 yX7_closings yX7_closings ∈ gU := gt_8 _ (List.mem_of_getElem? (i := 141) rfl) rfl
theorem q8_142 : Cond.code yX7_closings cX7_closings 1 (some .int) ∈ gU := gt_8 _ (List.mem_of_getElem? (i := 142) rfl) rfl
theorem q8_143 : Cond.methodLink RL 434 yX7_reopenings ∈ gU := gt_8 _ (List.mem_of_getElem? (i := 143) rfl) rfl
theorem q8_144 : Cond.instanceMethod yX7_reopenings ∈ gU := gt_8 _ (List.mem_of_getElem? (i := 144) rfl) rfl
theorem q8_145 : Cond.selects RX7 yX7_reopenings yX7_reopenings ∈ gU := gt_8 _ (List.mem_of_getElem? (i := 145) rfl) rfl
theorem q8_146 : Cond.code yX7_reopenings cX7_reopenings 1 (some .int) ∈ gU := gt_8 _ (List.mem_of_getElem? (i := 146) rfl) rfl
theorem q8_147 : Cond.methodLink RL 438 yX7_pointsOfWeek ∈ gU := gt_8 _ (List.mem_of_getElem? (i := 147) rfl) rfl
theorem q8_148 : Cond.instanceMethod yX7_pointsOfWeek ∈ gU := gt_8 _ (List.mem_of_getElem? (i := 148) rfl) rfl
theorem q8_149 : Cond.selects RX7 yX7_pointsOfWeek yX7_pointsOfWeek ∈ gU := gt_8 _ (List.mem_of_getElem? (i := 149) rfl) rfl
theorem q8_150 : Cond.code yX7_pointsOfWeek cX7_pointsOfWeek 1 (some .int) ∈ gU := gt_8 _ (List.mem_of_getElem? (i := 150) rfl) rfl
theorem q8_151 : Cond.methodLink RX7 240 yX7_week ∈ gU := gt_8 _ (List.mem_of_getElem? (i := 151) rfl) rfl
theorem q8_153 : Cond.instanceMethod yX7_week ∈ gU := gt_8 _ (List.mem_of_getElem? (i := 153) rfl) rfl
theorem q8_154 : Cond.code yX7_week cX7_week 3 (some .int) ∈ gU := gt_8 _ (List.mem_of_getElem? (i := 154) rfl) rfl
theorem q8_155 : Cond.methodLink RL 443 yX7_meanDays ∈ gU := gt_8 _ (List.mem_of_getElem? (i := 155) rfl) rfl
theorem q8_156 : Cond.instanceMethod yX7_meanDays ∈ gU := gt_8 _ (List.mem_of_getElem? (i := 156) rfl) rfl
theorem q8_157 : Cond.selects RX7 yX7_meanDays yX7_meanDays ∈ gU := gt_8 _ (List.mem_of_getElem? (i := 157) rfl) rfl
theorem q8_158 : Cond.code yX7_meanDays cX7_meanDays 1 (some .double) ∈ gU := gt_8 _ (List.mem_of_getElem? (i := 158) rfl) rfl
theorem q8_159 : Cond.methodLink RX7 243 yX7_mean ∈ gU := gt_8 _ (List.mem_of_getElem? (i := 159) rfl) rfl
theorem q8_161 : Cond.instanceMethod yX7_mean ∈ gU := gt_8 _ (List.mem_of_getElem? (i := 161) rfl) rfl
theorem q8_162 : Cond.code yX7_mean cX7_mean 4 (some .double) ∈ gU := gt_8 _ (List.mem_of_getElem? (i := 162) rfl) rfl
theorem q8_163 : Cond.methodLink RL 448 yX7_digest ∈ gU := gt_8 _ (List.mem_of_getElem? (i := 163) rfl) rfl
theorem q8_164 : Cond.instanceMethod yX7_digest ∈ gU := gt_8 _ (List.mem_of_getElem? (i := 164) rfl) rfl
theorem q8_165 : Cond.selects RX7 yX7_digest yX7_digest ∈ gU := gt_8 _ (List.mem_of_getElem? (i := 165) rfl) rfl
theorem q8_166 : Cond.code yX7_digest cX7_digest 5 (some .long) ∈ gU := gt_8 _ (List.mem_of_getElem? (i := 166) rfl) rfl
theorem q8_167 : Cond.constantLong RX7 249 4211 ∈ gU := gt_8 _ (List.mem_of_getElem? (i := 167) rfl) rfl
theorem q8_168 : Cond.constantLong RX7 247 31 ∈ gU := gt_8 _ (List.mem_of_getElem? (i := 168) rfl) rfl
theorem q8_169 : Cond.methodLink RX7 251 yX7_digestTicket ∈ gU := gt_8 _ (List.mem_of_getElem? (i := 169) rfl) rfl
theorem q8_171 : Cond.instanceMethod yX7_digestTicket ∈ gU := gt_8 _ (List.mem_of_getElem? (i := 171) rfl) rfl
theorem q8_172 : Cond.code yX7_digestTicket cX7_digestTicket 7 (some .long) ∈ gU := gt_8 _ (List.mem_of_getElem? (i := 172) rfl) rfl
theorem q8_173 : Cond.methodLink RX7 255 yJxe99ae_doubleToLongBits_ccdee ∈ gU := gt_8 _ (List.mem_of_getElem? (i := 173) rfl) rfl
theorem q8_174 : Cond.static yJxe99ae_doubleToLongBits_ccdee ∈ gU := gt_8 _ (List.mem_of_getElem? (i := 174) rfl) rfl
theorem q8_175 : Cond.code yJxe99ae_doubleToLongBits_ccdee cJxe99ae_doubleToLongBits_ccdee 2 (some .long) ∈ gU := gt_8 _ (List.mem_of_getElem? (i := 175) rfl) rfl
theorem q8_176 : Cond.methodLink RJxe99ae 122 yJxe99ae_isNaN_b9ae7 ∈ gU := gt_8 _ (List.mem_of_getElem? (i := 176) rfl) rfl
theorem q8_177 : Cond.static yJxe99ae_isNaN_b9ae7 ∈ gU := gt_8 _ (List.mem_of_getElem? (i := 177) rfl) rfl
theorem q8_178 : Cond.code yJxe99ae_isNaN_b9ae7 cJxe99ae_isNaN_b9ae7 2 (some .boolean) ∈ gU := gt_8 _ (List.mem_of_getElem? (i := 178) rfl) rfl
theorem q8_179 : Cond.methodLink RJxe99ae 134 (⟨"java/lang/Double", "doubleToRawLongBits", "(D)J"⟩ : MethodName) ∈ gU := gt_8 _ (List.mem_of_getElem? (i := 179) rfl) rfl
theorem q8_180 : Cond.static (⟨"java/lang/Double", "doubleToRawLongBits", "(D)J"⟩ : MethodName) ∈ gU := gt_8 _ (List.mem_of_getElem? (i := 180) rfl) rfl
theorem q8_181 : Cond.native (⟨"java/lang/Double", "doubleToRawLongBits", "(D)J"⟩ : MethodName) ∈ gU := gt_8 _ (List.mem_of_getElem? (i := 181) rfl) rfl
theorem q8_182 : Cond.constantLong RJxe99ae 137 9221120237041090560 ∈ gU := gt_8 _ (List.mem_of_getElem? (i := 182) rfl) rfl
theorem q8_183 : Cond.arrayClass .long ∈ gU := gt_8 _ (List.mem_of_getElem? (i := 183) rfl) rfl
theorem qs_0 : Cond.selects RX4 yX4_readOrder yX4_readOrder ∈ gU := gt_s _ (List.mem_of_getElem? (i := 0) rfl) rfl
theorem qs_1 : Cond.selects RX4 yX4_readOpening yX4_readOpening ∈ gU := gt_s _ (List.mem_of_getElem? (i := 1) rfl) rfl
theorem qs_2 : Cond.selects RX4 yX4_readNumber yX4_readNumber ∈ gU := gt_s _ (List.mem_of_getElem? (i := 2) rfl) rfl
theorem qs_3 : Cond.selects RX4 yX4_digitHere yX4_digitHere ∈ gU := gt_s _ (List.mem_of_getElem? (i := 3) rfl) rfl
theorem qs_4 : Cond.selects RX4 yX4_readSign yX4_readSign ∈ gU := gt_s _ (List.mem_of_getElem? (i := 4) rfl) rfl
theorem qs_5 : Cond.selects RX4 yX4_noteOrder yX4_noteOrder ∈ gU := gt_s _ (List.mem_of_getElem? (i := 5) rfl) rfl
theorem qs_6 : Cond.selects RX4 yX4_readPair yX4_readPair ∈ gU := gt_s _ (List.mem_of_getElem? (i := 6) rfl) rfl
theorem qs_7 : Cond.selects RX4 yX4_readSingle yX4_readSingle ∈ gU := gt_s _ (List.mem_of_getElem? (i := 7) rfl) rfl
theorem qs_8 : Cond.selects RX1 yX1_bestNeeded yX1_bestNeeded ∈ gU := gt_s _ (List.mem_of_getElem? (i := 8) rfl) rfl
theorem qs_9 : Cond.selects RX0 yX0_setWhere yX0_setWhere ∈ gU := gt_s _ (List.mem_of_getElem? (i := 9) rfl) rfl
theorem qs_10 : Cond.selects RX6 yX6_withTicket yX6_withTicket ∈ gU := gt_s _ (List.mem_of_getElem? (i := 10) rfl) rfl
theorem qs_11 : Cond.selects RX6 yX6_withOwner yX6_withOwner ∈ gU := gt_s _ (List.mem_of_getElem? (i := 11) rfl) rfl
theorem qs_12 : Cond.selects RX6 yX6_withMilestone yX6_withMilestone ∈ gU := gt_s _ (List.mem_of_getElem? (i := 12) rfl) rfl
theorem qs_13 : Cond.selects RX6 yX6_withWhatToDo yX6_withWhatToDo ∈ gU := gt_s _ (List.mem_of_getElem? (i := 13) rfl) rfl
theorem qs_14 : Cond.selects RX6 yX6_withAccounts yX6_withAccounts ∈ gU := gt_s _ (List.mem_of_getElem? (i := 14) rfl) rfl
theorem qs_15 : Cond.selects "java/lang/Throwable" (⟨"java/lang/Throwable", "fillInStackTrace", "(I)Ljava/lang/Throwable;"⟩ : MethodName) (⟨"java/lang/Throwable", "fillInStackTrace", "(I)Ljava/lang/Throwable;"⟩ : MethodName) ∈ gU := gt_s _ (List.mem_of_getElem? (i := 15) rfl) rfl
theorem qs_16 : Cond.selects RX0 yX0_hasCapacity yX0_hasCapacity ∈ gU := gt_s _ (List.mem_of_getElem? (i := 16) rfl) rfl
theorem qs_17 : Cond.selects RX0 yX0_addLoad yX0_addLoad ∈ gU := gt_s _ (List.mem_of_getElem? (i := 17) rfl) rfl
theorem qs_18 : Cond.selects RX7 yX7_fails yX7_fails ∈ gU := gt_s _ (List.mem_of_getElem? (i := 18) rfl) rfl
theorem qs_19 : Cond.selects RX7 yX7_records yX7_records ∈ gU := gt_s _ (List.mem_of_getElem? (i := 19) rfl) rfl
theorem qs_20 : Cond.selects RX7 yX7_opens yX7_opens ∈ gU := gt_s _ (List.mem_of_getElem? (i := 20) rfl) rfl
theorem qs_21 : Cond.selects RX7 yX7_lay yX7_lay ∈ gU := gt_s _ (List.mem_of_getElem? (i := 21) rfl) rfl
theorem qs_22 : Cond.selects RX7 yX7_isTicket yX7_isTicket ∈ gU := gt_s _ (List.mem_of_getElem? (i := 22) rfl) rfl
theorem qs_23 : Cond.selects RX7 yX7_of yX7_of ∈ gU := gt_s _ (List.mem_of_getElem? (i := 23) rfl) rfl
theorem qs_24 : Cond.selects RX7 yX7_isLeft yX7_isLeft ∈ gU := gt_s _ (List.mem_of_getElem? (i := 24) rfl) rfl
theorem qs_25 : Cond.selects RX7 yX7_canTake yX7_canTake ∈ gU := gt_s _ (List.mem_of_getElem? (i := 25) rfl) rfl
theorem qs_26 : Cond.selects RX7 yX7_load yX7_load ∈ gU := gt_s _ (List.mem_of_getElem? (i := 26) rfl) rfl
theorem qs_27 : Cond.selects RX7 yX7_canNeed yX7_canNeed ∈ gU := gt_s _ (List.mem_of_getElem? (i := 27) rfl) rfl
theorem qs_28 : Cond.selects RX7 yX7_needsIt yX7_needsIt ∈ gU := gt_s _ (List.mem_of_getElem? (i := 28) rfl) rfl
theorem qs_29 : Cond.selects RX7 yX7_allNeeds yX7_allNeeds ∈ gU := gt_s _ (List.mem_of_getElem? (i := 29) rfl) rfl
theorem qs_30 : Cond.selects RX7 yX7_takesNeed yX7_takesNeed ∈ gU := gt_s _ (List.mem_of_getElem? (i := 30) rfl) rfl
theorem qs_31 : Cond.selects RX7 yX7_canAssign yX7_canAssign ∈ gU := gt_s _ (List.mem_of_getElem? (i := 31) rfl) rfl
theorem qs_32 : Cond.selects RX7 yX7_assigns yX7_assigns ∈ gU := gt_s _ (List.mem_of_getElem? (i := 32) rfl) rfl
theorem qs_33 : Cond.selects RX7 yX7_leftFor yX7_leftFor ∈ gU := gt_s _ (List.mem_of_getElem? (i := 33) rfl) rfl
theorem qs_34 : Cond.selects RX7 yX7_ends yX7_ends ∈ gU := gt_s _ (List.mem_of_getElem? (i := 34) rfl) rfl
theorem qs_35 : Cond.selects RX7 yX7_canStart yX7_canStart ∈ gU := gt_s _ (List.mem_of_getElem? (i := 35) rfl) rfl
theorem qs_36 : Cond.selects RX7 yX7_canClose yX7_canClose ∈ gU := gt_s _ (List.mem_of_getElem? (i := 36) rfl) rfl
theorem qs_37 : Cond.selects RX7 yX7_blockers yX7_blockers ∈ gU := gt_s _ (List.mem_of_getElem? (i := 37) rfl) rfl
theorem qs_38 : Cond.selects RX7 yX7_left yX7_left ∈ gU := gt_s _ (List.mem_of_getElem? (i := 38) rfl) rfl
theorem qs_39 : Cond.selects RX7 yX7_closes yX7_closes ∈ gU := gt_s _ (List.mem_of_getElem? (i := 39) rfl) rfl
theorem qs_40 : Cond.selects RX7 yX7_blocked yX7_blocked ∈ gU := gt_s _ (List.mem_of_getElem? (i := 40) rfl) rfl
theorem qs_41 : Cond.selects RX7 yX7_canReopen yX7_canReopen ∈ gU := gt_s _ (List.mem_of_getElem? (i := 41) rfl) rfl
theorem qs_42 : Cond.selects RX7 yX7_readsOrders yX7_readsOrders ∈ gU := gt_s _ (List.mem_of_getElem? (i := 42) rfl) rfl
theorem qs_43 : Cond.selects RX7 yX7_readsOrder yX7_readsOrder ∈ gU := gt_s _ (List.mem_of_getElem? (i := 43) rfl) rfl
theorem qs_44 : Cond.selects RX7 yX7_sign yX7_sign ∈ gU := gt_s _ (List.mem_of_getElem? (i := 44) rfl) rfl
theorem qs_45 : Cond.selects RX7 yX7_number yX7_number ∈ gU := gt_s _ (List.mem_of_getElem? (i := 45) rfl) rfl
theorem qs_46 : Cond.selects RX7 yX7_reads yX7_reads ∈ gU := gt_s _ (List.mem_of_getElem? (i := 46) rfl) rfl
theorem qs_47 : Cond.selects RX7 yX7_putAside yX7_putAside ∈ gU := gt_s _ (List.mem_of_getElem? (i := 47) rfl) rfl
theorem qs_48 : Cond.selects RX7 yX7_followsAll yX7_followsAll ∈ gU := gt_s _ (List.mem_of_getElem? (i := 48) rfl) rfl
theorem qs_49 : Cond.selects RX7 yX7_can yX7_can ∈ gU := gt_s _ (List.mem_of_getElem? (i := 49) rfl) rfl
theorem qs_50 : Cond.selects RX7 yX7_follows yX7_follows ∈ gU := gt_s _ (List.mem_of_getElem? (i := 50) rfl) rfl
theorem qs_51 : Cond.selects RX7 yX7_takeBack yX7_takeBack ∈ gU := gt_s _ (List.mem_of_getElem? (i := 51) rfl) rfl
theorem qs_52 : Cond.selects RX7 yX7_tells yX7_tells ∈ gU := gt_s _ (List.mem_of_getElem? (i := 52) rfl) rfl
theorem qs_53 : Cond.selects RX7 yX7_chainFrom yX7_chainFrom ∈ gU := gt_s _ (List.mem_of_getElem? (i := 53) rfl) rfl
theorem qs_54 : Cond.selects RX7 yX7_tellsChains yX7_tellsChains ∈ gU := gt_s _ (List.mem_of_getElem? (i := 54) rfl) rfl
theorem qs_55 : Cond.selects RX7 yX7_critical yX7_critical ∈ gU := gt_s _ (List.mem_of_getElem? (i := 55) rfl) rfl
theorem qs_56 : Cond.selects RX7 yX7_progressOf yX7_progressOf ∈ gU := gt_s _ (List.mem_of_getElem? (i := 56) rfl) rfl
theorem qs_57 : Cond.selects RX7 yX7_doneOf yX7_doneOf ∈ gU := gt_s _ (List.mem_of_getElem? (i := 57) rfl) rfl
theorem qs_58 : Cond.selects RX7 yX7_freest yX7_freest ∈ gU := gt_s _ (List.mem_of_getElem? (i := 58) rfl) rfl
theorem qs_59 : Cond.selects RX7 yX7_doneFor yX7_doneFor ∈ gU := gt_s _ (List.mem_of_getElem? (i := 59) rfl) rfl
theorem qs_60 : Cond.selects RX7 yX7_hundredths yX7_hundredths ∈ gU := gt_s _ (List.mem_of_getElem? (i := 60) rfl) rfl
theorem qs_61 : Cond.selects RX7 yX7_late yX7_late ∈ gU := gt_s _ (List.mem_of_getElem? (i := 61) rfl) rfl
theorem qs_62 : Cond.selects RX7 yX7_misplannedOf yX7_misplannedOf ∈ gU := gt_s _ (List.mem_of_getElem? (i := 62) rfl) rfl
theorem qs_63 : Cond.selects RX7 yX7_isBehind yX7_isBehind ∈ gU := gt_s _ (List.mem_of_getElem? (i := 63) rfl) rfl
theorem qs_64 : Cond.selects RX7 yX7_next yX7_next ∈ gU := gt_s _ (List.mem_of_getElem? (i := 64) rfl) rfl
theorem qs_65 : Cond.selects RX7 yX7_firstOf yX7_firstOf ∈ gU := gt_s _ (List.mem_of_getElem? (i := 65) rfl) rfl
theorem qs_66 : Cond.selects RX7 yX7_isAhead yX7_isAhead ∈ gU := gt_s _ (List.mem_of_getElem? (i := 66) rfl) rfl
theorem qs_67 : Cond.selects RX7 yX7_tellsOrder yX7_tellsOrder ∈ gU := gt_s _ (List.mem_of_getElem? (i := 67) rfl) rfl
theorem qs_68 : Cond.selects RX7 yX7_sumWith yX7_sumWith ∈ gU := gt_s _ (List.mem_of_getElem? (i := 68) rfl) rfl
theorem qs_69 : Cond.selects RX7 yX7_blockedMany yX7_blockedMany ∈ gU := gt_s _ (List.mem_of_getElem? (i := 69) rfl) rfl
theorem qs_70 : Cond.selects RX7 yX7_week yX7_week ∈ gU := gt_s _ (List.mem_of_getElem? (i := 70) rfl) rfl
theorem qs_71 : Cond.selects RX7 yX7_mean yX7_mean ∈ gU := gt_s _ (List.mem_of_getElem? (i := 71) rfl) rfl
theorem qs_72 : Cond.selects RX7 yX7_digestTicket yX7_digestTicket ∈ gU := gt_s _ (List.mem_of_getElem? (i := 72) rfl) rfl
