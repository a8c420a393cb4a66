def gG : List Cond := lw_tbl.filter goodWord
theorem gT1 {w : Cond} (i : Nat) (h : tables_1_1[i]? = some w) : w ∈ tables_1 := List.mem_append_left _ (List.mem_of_getElem? h)
theorem gT2 {w : Cond} (i : Nat) (h : tables_1_2[i]? = some w) : w ∈ tables_1 := List.mem_append_right _ (List.mem_of_getElem? h)
theorem gG1 {w : Cond} (i : Nat) (h : tables_1_1[i]? = some w) (hg : goodWord w = true) : w ∈ gG := List.mem_filter.mpr ⟨List.mem_append_right _ (gT1 i h), hg⟩
theorem gG2 {w : Cond} (i : Nat) (h : tables_1_2[i]? = some w) (hg : goodWord w = true) : w ∈ gG := List.mem_filter.mpr ⟨List.mem_append_right _ (gT2 i h), hg⟩
theorem gGs {q : MethodName × Nat} (h : q ∈ lw_privs) (hg : goodWord (Cond.selects q.1.cls q.1 q.1) = true) : Cond.selects q.1.cls q.1 q.1 ∈ gG := List.mem_filter.mpr ⟨List.mem_append_left _ (List.mem_map.mpr ⟨q, h, rfl⟩), hg⟩
theorem lw_r1_in {q : MethodName × Nat} (i : Nat) (h : lw_privs_1[i]? = some q) : q ∈ lw_privs := List.mem_append_left _ (List.mem_of_getElem? h)
theorem lw_r2_in {q : MethodName × Nat} (i : Nat) (h : lw_privs_2[i]? = some q) : q ∈ lw_privs := List.mem_append_right _ (List.mem_of_getElem? h)
theorem w_0 : (Cond.initialized "TapeCounterLaw" : Cond) ∈ gG := gG1 0 rfl rfl
theorem w_1 : (Cond.initialized "TapeCounter" : Cond) ∈ gG := gG1 1 rfl rfl
theorem w_2 : (Cond.initialized "TapeCounter$Tape" : Cond) ∈ gG := gG1 2 rfl rfl
theorem w_3 : (Cond.initialized "TapeCounter$Tally" : Cond) ∈ gG := gG1 3 rfl rfl
theorem w_4 : (Cond.initialized "TapeCounterModel" : Cond) ∈ gG := gG1 4 rfl rfl
theorem w_5 : (Cond.initialized "java/lang/System" : Cond) ∈ gG := gG1 5 rfl rfl
theorem w_6 : (Cond.initialized "java/lang/Math" : Cond) ∈ gG := gG1 6 rfl rfl
theorem w_7 : (Cond.classLink "TapeCounterLaw" 7 "TapeCounter" : Cond) ∈ gG := gG1 7 rfl rfl
theorem w_8 : (Cond.instantiable "TapeCounter" 6 : Cond) ∈ gG := gG1 8 rfl rfl
theorem w_9 : (Cond.methodLink "TapeCounterLaw" 9 ⟨"TapeCounter", "<init>", "()V"⟩ : Cond) ∈ gG := gG1 9 rfl rfl
theorem w_10 : (Cond.instanceMethod ⟨"TapeCounter", "<init>", "()V"⟩ : Cond) ∈ gG := gG1 10 rfl rfl
theorem w_11 : (Cond.code ⟨"TapeCounter", "<init>", "()V"⟩ prog_1_method_1_code 2 none : Cond) ∈ gG := gG1 11 rfl rfl
theorem w_12 : (Cond.methodLink "TapeCounter" 1 ⟨"java/lang/Object", "<init>", "()V"⟩ : Cond) ∈ gG := gG1 12 rfl rfl
theorem w_13 : (Cond.instanceMethod ⟨"java/lang/Object", "<init>", "()V"⟩ : Cond) ∈ gG := gG1 13 rfl rfl
theorem w_14 : (Cond.code ⟨"java/lang/Object", "<init>", "()V"⟩ object_method_1_code 1 none : Cond) ∈ gG := gG1 14 rfl rfl
theorem w_15 : (Cond.classLink "TapeCounter" 16 "TapeCounter$Tape" : Cond) ∈ gG := gG1 15 rfl rfl
theorem w_16 : (Cond.instantiable "TapeCounter$Tape" 3 : Cond) ∈ gG := gG1 16 rfl rfl
theorem w_17 : (Cond.methodLink "TapeCounter" 18 ⟨"TapeCounter$Tape", "<init>", "(I)V"⟩ : Cond) ∈ gG := gG1 17 rfl rfl
theorem w_18 : (Cond.instanceMethod ⟨"TapeCounter$Tape", "<init>", "(I)V"⟩ : Cond) ∈ gG := gG1 18 rfl rfl
theorem w_19 : (Cond.code ⟨"TapeCounter$Tape", "<init>", "(I)V"⟩ prog_3_method_1_code 2 none : Cond) ∈ gG := gG1 19 rfl rfl
theorem w_20 : (Cond.methodLink "TapeCounter$Tape" 3 ⟨"java/lang/Object", "<init>", "()V"⟩ : Cond) ∈ gG := gG1 20 rfl rfl
theorem w_21 : (Cond.fieldLink "TapeCounter$Tape" 9 "TapeCounter$Tape" "bits" "[I" : Cond) ∈ gG := gG1 21 rfl rfl
theorem w_22 : (Cond.fieldLink "TapeCounter$Tape" 15 "TapeCounter$Tape" "size" "I" : Cond) ∈ gG := gG1 22 rfl rfl
theorem w_23 : (Cond.fieldLink "TapeCounter$Tape" 19 "TapeCounter$Tape" "at" "I" : Cond) ∈ gG := gG1 23 rfl rfl
theorem w_24 : (Cond.laysFinal "TapeCounter$Tape" "TapeCounter$Tape" "bits" "[I" : Cond) ∈ gG := gG1 24 rfl rfl
theorem w_26 : (Cond.lays "TapeCounter$Tape" "TapeCounter$Tape" "size" "I" : Cond) ∈ gG := gG1 26 rfl rfl
theorem w_28 : (Cond.lays "TapeCounter$Tape" "TapeCounter$Tape" "at" "I" : Cond) ∈ gG := gG1 28 rfl rfl
theorem w_31 : (Cond.arrayClass .int : Cond) ∈ gG := gG1 31 rfl rfl
theorem w_32 : (Cond.classLink "TapeCounter" 28 "TapeCounter$Tally" : Cond) ∈ gG := gG1 32 rfl rfl
theorem w_33 : (Cond.instantiable "TapeCounter$Tally" 4 : Cond) ∈ gG := gG1 33 rfl rfl
theorem w_34 : (Cond.methodLinkNest "TapeCounter" 30 ⟨"TapeCounter$Tally", "<init>", "()V"⟩ "TapeCounter" : Cond) ∈ tables_1 := gT1 34 rfl
theorem w_35 : (Cond.instanceMethod ⟨"TapeCounter$Tally", "<init>", "()V"⟩ : Cond) ∈ gG := gG1 35 rfl rfl
theorem w_36 : (Cond.code ⟨"TapeCounter$Tally", "<init>", "()V"⟩ prog_2_method_1_code 1 none : Cond) ∈ gG := gG1 36 rfl rfl
theorem w_37 : (Cond.methodLink "TapeCounter$Tally" 3 ⟨"java/lang/Object", "<init>", "()V"⟩ : Cond) ∈ gG := gG1 37 rfl rfl
theorem w_38 : (Cond.fieldLink "TapeCounter$Tally" 9 "TapeCounter$Tally" "hits" "I" : Cond) ∈ gG := gG1 38 rfl rfl
theorem w_39 : (Cond.fieldLinkNest "TapeCounter" 78 "TapeCounter$Tally" "hits" "I" "TapeCounter" : Cond) ∈ tables_1 := gT1 39 rfl
theorem w_40 : (Cond.fieldLink "TapeCounter$Tally" 15 "TapeCounter$Tally" "runOuts" "I" : Cond) ∈ gG := gG1 40 rfl rfl
theorem w_41 : (Cond.fieldLinkNest "TapeCounter" 81 "TapeCounter$Tally" "runOuts" "I" "TapeCounter" : Cond) ∈ tables_1 := gT1 41 rfl
theorem w_42 : (Cond.fieldLink "TapeCounter$Tally" 18 "TapeCounter$Tally" "bitsRead" "I" : Cond) ∈ gG := gG1 42 rfl rfl
theorem w_43 : (Cond.fieldLinkNest "TapeCounter" 84 "TapeCounter$Tally" "bitsRead" "I" "TapeCounter" : Cond) ∈ tables_1 := gT1 43 rfl
theorem w_44 : (Cond.fieldLink "TapeCounter$Tally" 21 "TapeCounter$Tally" "fewestBits" "I" : Cond) ∈ gG := gG1 44 rfl rfl
theorem w_45 : (Cond.fieldLinkNest "TapeCounter" 87 "TapeCounter$Tally" "fewestBits" "I" "TapeCounter" : Cond) ∈ tables_1 := gT1 45 rfl
theorem w_46 : (Cond.lays "TapeCounter$Tally" "TapeCounter$Tally" "hits" "I" : Cond) ∈ gG := gG1 46 rfl rfl
theorem w_48 : (Cond.lays "TapeCounter$Tally" "TapeCounter$Tally" "runOuts" "I" : Cond) ∈ gG := gG1 48 rfl rfl
theorem w_50 : (Cond.lays "TapeCounter$Tally" "TapeCounter$Tally" "bitsRead" "I" : Cond) ∈ gG := gG1 50 rfl rfl
theorem w_52 : (Cond.lays "TapeCounter$Tally" "TapeCounter$Tally" "fewestBits" "I" : Cond) ∈ gG := gG1 52 rfl rfl
theorem w_55 : (Cond.fieldLink "TapeCounter" 9 "TapeCounter" "weights" "[I" : Cond) ∈ gG := gG1 55 rfl rfl
theorem w_56 : (Cond.fieldLink "TapeCounter" 13 "TapeCounter" "row" "[I" : Cond) ∈ gG := gG1 56 rfl rfl
theorem w_57 : (Cond.fieldLink "TapeCounter" 21 "TapeCounter" "tape" "LTapeCounter$Tape;" : Cond) ∈ gG := gG1 57 rfl rfl
theorem w_58 : (Cond.fieldLink "TapeCounter" 25 "TapeCounter" "trial" "LTapeCounter$Tape;" : Cond) ∈ gG := gG1 58 rfl rfl
theorem w_59 : (Cond.fieldLink "TapeCounter" 31 "TapeCounter" "tally" "LTapeCounter$Tally;" : Cond) ∈ gG := gG1 59 rfl rfl
theorem w_60 : (Cond.fieldLink "TapeCounter" 35 "TapeCounter" "latestSpent" "I" : Cond) ∈ gG := gG1 60 rfl rfl
theorem w_61 : (Cond.laysFinal "TapeCounter" "TapeCounter" "weights" "[I" : Cond) ∈ gG := gG1 61 rfl rfl
theorem w_63 : (Cond.laysFinal "TapeCounter" "TapeCounter" "row" "[I" : Cond) ∈ gG := gG1 63 rfl rfl
theorem w_65 : (Cond.laysFinal "TapeCounter" "TapeCounter" "tape" "LTapeCounter$Tape;" : Cond) ∈ gG := gG1 65 rfl rfl
theorem w_67 : (Cond.laysFinal "TapeCounter" "TapeCounter" "trial" "LTapeCounter$Tape;" : Cond) ∈ gG := gG1 67 rfl rfl
theorem w_69 : (Cond.laysFinal "TapeCounter" "TapeCounter" "tally" "LTapeCounter$Tally;" : Cond) ∈ gG := gG1 69 rfl rfl
theorem w_71 : (Cond.lays "TapeCounter" "TapeCounter" "latestSpent" "I" : Cond) ∈ gG := gG1 71 rfl rfl
theorem w_74 : (Cond.methodLink "TapeCounterLaw" 13 ⟨"TapeCounter", "weigh", "(II)Z"⟩ : Cond) ∈ gG := gG1 74 rfl rfl
theorem w_75 : (Cond.instanceMethod ⟨"TapeCounter", "weigh", "(II)Z"⟩ : Cond) ∈ gG := gG1 75 rfl rfl
theorem w_76 : (Cond.selects "TapeCounter" ⟨"TapeCounter", "weigh", "(II)Z"⟩ ⟨"TapeCounter", "weigh", "(II)Z"⟩ : Cond) ∈ gG := gG1 76 rfl rfl
theorem w_77 : (Cond.code ⟨"TapeCounter", "weigh", "(II)Z"⟩ prog_1_method_2_code 3 (some .boolean) : Cond) ∈ gG := gG1 77 rfl rfl
theorem w_78 : (Cond.methodLink "TapeCounter" 39 ⟨"TapeCounter", "isWithin", "(III)Z"⟩ : Cond) ∈ gG := gG1 78 rfl rfl
theorem w_79 : (Cond.static ⟨"TapeCounter", "isWithin", "(III)Z"⟩ : Cond) ∈ gG := gG1 79 rfl rfl
theorem w_80 : (Cond.code ⟨"TapeCounter", "isWithin", "(III)Z"⟩ prog_1_method_13_code 3 (some .boolean) : Cond) ∈ gG := gG1 80 rfl rfl
theorem w_81 : (Cond.methodLink "TapeCounterLaw" 18 ⟨"TapeCounter", "weight", "(I)I"⟩ : Cond) ∈ gG := gG1 81 rfl rfl
theorem w_82 : (Cond.instanceMethod ⟨"TapeCounter", "weight", "(I)I"⟩ : Cond) ∈ gG := gG1 82 rfl rfl
theorem w_83 : (Cond.selects "TapeCounter" ⟨"TapeCounter", "weight", "(I)I"⟩ ⟨"TapeCounter", "weight", "(I)I"⟩ : Cond) ∈ gG := gG1 83 rfl rfl
theorem w_84 : (Cond.code ⟨"TapeCounter", "weight", "(I)I"⟩ prog_1_method_3_code 2 (some .int) : Cond) ∈ gG := gG1 84 rfl rfl
theorem w_85 : (Cond.methodLink "TapeCounterLaw" 23 ⟨"TapeCounter", "feed", "(II)I"⟩ : Cond) ∈ gG := gG1 85 rfl rfl
theorem w_86 : (Cond.instanceMethod ⟨"TapeCounter", "feed", "(II)I"⟩ : Cond) ∈ gG := gG1 86 rfl rfl
theorem w_87 : (Cond.selects "TapeCounter" ⟨"TapeCounter", "feed", "(II)I"⟩ ⟨"TapeCounter", "feed", "(II)I"⟩ : Cond) ∈ gG := gG1 87 rfl rfl
theorem w_88 : (Cond.code ⟨"TapeCounter", "feed", "(II)I"⟩ prog_1_method_4_code 3 (some .int) : Cond) ∈ gG := gG1 88 rfl rfl
theorem w_89 : (Cond.methodLink "TapeCounter" 43 ⟨"TapeCounter$Tape", "append", "(II)Z"⟩ : Cond) ∈ gG := gG1 89 rfl rfl
theorem w_90 : (Cond.instanceMethod ⟨"TapeCounter$Tape", "append", "(II)Z"⟩ : Cond) ∈ gG := gG1 90 rfl rfl
theorem w_91 : (Cond.selects "TapeCounter$Tape" ⟨"TapeCounter$Tape", "append", "(II)Z"⟩ ⟨"TapeCounter$Tape", "append", "(II)Z"⟩ : Cond) ∈ gG := gG1 91 rfl rfl
theorem w_92 : (Cond.code ⟨"TapeCounter$Tape", "append", "(II)Z"⟩ prog_3_method_6_code 4 (some .boolean) : Cond) ∈ gG := gG1 92 rfl rfl
theorem w_93 : (Cond.methodLink "TapeCounter" 47 ⟨"TapeCounter$Tape", "size", "()I"⟩ : Cond) ∈ gG := gG1 93 rfl rfl
theorem w_94 : (Cond.instanceMethod ⟨"TapeCounter$Tape", "size", "()I"⟩ : Cond) ∈ gG := gG1 94 rfl rfl
theorem w_95 : (Cond.selects "TapeCounter$Tape" ⟨"TapeCounter$Tape", "size", "()I"⟩ ⟨"TapeCounter$Tape", "size", "()I"⟩ : Cond) ∈ gG := gG1 95 rfl rfl
theorem w_96 : (Cond.code ⟨"TapeCounter$Tape", "size", "()I"⟩ prog_3_method_2_code 1 (some .int) : Cond) ∈ gG := gG1 96 rfl rfl
theorem w_97 : (Cond.methodLink "TapeCounterLaw" 28 ⟨"TapeCounter", "left", "()I"⟩ : Cond) ∈ gG := gG1 97 rfl rfl
theorem w_98 : (Cond.instanceMethod ⟨"TapeCounter", "left", "()I"⟩ : Cond) ∈ gG := gG1 98 rfl rfl
theorem w_99 : (Cond.selects "TapeCounter" ⟨"TapeCounter", "left", "()I"⟩ ⟨"TapeCounter", "left", "()I"⟩ : Cond) ∈ gG := gG1 99 rfl rfl
theorem w_100 : (Cond.code ⟨"TapeCounter", "left", "()I"⟩ prog_1_method_5_code 1 (some .int) : Cond) ∈ gG := gG1 100 rfl rfl
theorem w_101 : (Cond.methodLink "TapeCounterLaw" 33 ⟨"TapeCounter", "isOne", "(III)Z"⟩ : Cond) ∈ gG := gG1 101 rfl rfl
theorem w_102 : (Cond.instanceMethod ⟨"TapeCounter", "isOne", "(III)Z"⟩ : Cond) ∈ gG := gG1 102 rfl rfl
theorem w_103 : (Cond.selects "TapeCounter" ⟨"TapeCounter", "isOne", "(III)Z"⟩ ⟨"TapeCounter", "isOne", "(III)Z"⟩ : Cond) ∈ gG := gG1 103 rfl rfl
theorem w_104 : (Cond.code ⟨"TapeCounter", "isOne", "(III)Z"⟩ prog_1_method_6_code 4 (some .boolean) : Cond) ∈ gG := gG1 104 rfl rfl
theorem w_105 : (Cond.methodLink "TapeCounter" 51 ⟨"TapeCounter", "weightSum", "()I"⟩ : Cond) ∈ gG := gG1 105 rfl rfl
theorem w_107 : (Cond.instanceMethod ⟨"TapeCounter", "weightSum", "()I"⟩ : Cond) ∈ gG := gG1 107 rfl rfl
theorem w_108 : (Cond.code ⟨"TapeCounter", "weightSum", "()I"⟩ prog_1_method_15_code 3 (some .int) : Cond) ∈ gG := gG1 108 rfl rfl
theorem w_109 : (Cond.methodLink "TapeCounterLaw" 38 ⟨"TapeCounter", "draw", "(III)I"⟩ : Cond) ∈ gG := gG1 109 rfl rfl
theorem w_110 : (Cond.instanceMethod ⟨"TapeCounter", "draw", "(III)I"⟩ : Cond) ∈ gG := gG1 110 rfl rfl
theorem w_111 : (Cond.selects "TapeCounter" ⟨"TapeCounter", "draw", "(III)I"⟩ ⟨"TapeCounter", "draw", "(III)I"⟩ : Cond) ∈ gG := gG1 111 rfl rfl
theorem w_112 : (Cond.code ⟨"TapeCounter", "draw", "(III)I"⟩ prog_1_method_7_code 5 (some .int) : Cond) ∈ gG := gG1 112 rfl rfl
theorem w_113 : (Cond.methodLink "TapeCounter" 54 ⟨"TapeCounter", "isOne", "(III)Z"⟩ : Cond) ∈ gG := gG1 113 rfl rfl
theorem w_114 : (Cond.methodLink "TapeCounter" 57 ⟨"TapeCounter$Tape", "rewind", "()V"⟩ : Cond) ∈ gG := gG1 114 rfl rfl
theorem w_115 : (Cond.instanceMethod ⟨"TapeCounter$Tape", "rewind", "()V"⟩ : Cond) ∈ gG := gG1 115 rfl rfl
theorem w_116 : (Cond.selects "TapeCounter$Tape" ⟨"TapeCounter$Tape", "rewind", "()V"⟩ ⟨"TapeCounter$Tape", "rewind", "()V"⟩ : Cond) ∈ gG := gG1 116 rfl rfl
theorem w_117 : (Cond.code ⟨"TapeCounter$Tape", "rewind", "()V"⟩ prog_3_method_5_code 1 none : Cond) ∈ gG := gG1 117 rfl rfl
theorem w_118 : (Cond.methodLink "TapeCounter" 60 ⟨"TapeCounter", "sample", "(LTapeCounter$Tape;III)I"⟩ : Cond) ∈ gG := gG1 118 rfl rfl
theorem w_120 : (Cond.instanceMethod ⟨"TapeCounter", "sample", "(LTapeCounter$Tape;III)I"⟩ : Cond) ∈ gG := gG1 120 rfl rfl
theorem w_121 : (Cond.code ⟨"TapeCounter", "sample", "(LTapeCounter$Tape;III)I"⟩ prog_1_method_17_code 5 (some .int) : Cond) ∈ gG := gG1 121 rfl rfl
theorem w_122 : (Cond.methodLink "TapeCounter" 104 ⟨"TapeCounter", "plain", "(LTapeCounter$Tape;I)I"⟩ : Cond) ∈ gG := gG1 122 rfl rfl
theorem w_123 : (Cond.static ⟨"TapeCounter", "plain", "(LTapeCounter$Tape;I)I"⟩ : Cond) ∈ gG := gG1 123 rfl rfl
theorem w_124 : (Cond.code ⟨"TapeCounter", "plain", "(LTapeCounter$Tape;I)I"⟩ prog_1_method_18_code 5 (some .int) : Cond) ∈ gG := gG1 124 rfl rfl
theorem w_125 : (Cond.methodLink "TapeCounter" 131 ⟨"TapeCounter", "bitsFor", "(I)I"⟩ : Cond) ∈ gG := gG1 125 rfl rfl
theorem w_126 : (Cond.static ⟨"TapeCounter", "bitsFor", "(I)I"⟩ : Cond) ∈ gG := gG1 126 rfl rfl
theorem w_127 : (Cond.code ⟨"TapeCounter", "bitsFor", "(I)I"⟩ prog_1_method_19_code 2 (some .int) : Cond) ∈ gG := gG1 127 rfl rfl
theorem w_128 : (Cond.methodLink "TapeCounter" 135 ⟨"TapeCounter$Tape", "readNumber", "(I)I"⟩ : Cond) ∈ gG := gG1 128 rfl rfl
theorem w_129 : (Cond.instanceMethod ⟨"TapeCounter$Tape", "readNumber", "(I)I"⟩ : Cond) ∈ gG := gG1 129 rfl rfl
theorem w_130 : (Cond.selects "TapeCounter$Tape" ⟨"TapeCounter$Tape", "readNumber", "(I)I"⟩ ⟨"TapeCounter$Tape", "readNumber", "(I)I"⟩ : Cond) ∈ gG := gG1 130 rfl rfl
theorem w_131 : (Cond.code ⟨"TapeCounter$Tape", "readNumber", "(I)I"⟩ prog_3_method_8_code 5 (some .int) : Cond) ∈ gG := gG1 131 rfl rfl
theorem w_132 : (Cond.methodLink "TapeCounter$Tape" 22 ⟨"TapeCounter$Tape", "readBit", "()I"⟩ : Cond) ∈ gG := gG1 132 rfl rfl
theorem w_133 : (Cond.instanceMethod ⟨"TapeCounter$Tape", "readBit", "()I"⟩ : Cond) ∈ gG := gG1 133 rfl rfl
theorem w_134 : (Cond.selects "TapeCounter$Tape" ⟨"TapeCounter$Tape", "readBit", "()I"⟩ ⟨"TapeCounter$Tape", "readBit", "()I"⟩ : Cond) ∈ gG := gG1 134 rfl rfl
theorem w_135 : (Cond.code ⟨"TapeCounter$Tape", "readBit", "()I"⟩ prog_3_method_7_code 2 (some .int) : Cond) ∈ gG := gG1 135 rfl rfl
theorem w_136 : (Cond.methodLink "TapeCounter" 108 ⟨"TapeCounter", "thrifty", "(LTapeCounter$Tape;I)I"⟩ : Cond) ∈ gG := gG1 136 rfl rfl
theorem w_137 : (Cond.static ⟨"TapeCounter", "thrifty", "(LTapeCounter$Tape;I)I"⟩ : Cond) ∈ gG := gG1 137 rfl rfl
theorem w_138 : (Cond.code ⟨"TapeCounter", "thrifty", "(LTapeCounter$Tape;I)I"⟩ prog_1_method_20_code 6 (some .int) : Cond) ∈ gG := gG1 138 rfl rfl
theorem w_139 : (Cond.methodLink "TapeCounter" 138 ⟨"TapeCounter$Tape", "readBit", "()I"⟩ : Cond) ∈ gG := gG1 139 rfl rfl
theorem w_140 : (Cond.methodLink "TapeCounter" 111 ⟨"TapeCounter", "coin", "(LTapeCounter$Tape;II)I"⟩ : Cond) ∈ gG := gG1 140 rfl rfl
theorem w_141 : (Cond.static ⟨"TapeCounter", "coin", "(LTapeCounter$Tape;II)I"⟩ : Cond) ∈ gG := gG1 141 rfl rfl
theorem w_142 : (Cond.code ⟨"TapeCounter", "coin", "(LTapeCounter$Tape;II)I"⟩ prog_1_method_21_code 7 (some .int) : Cond) ∈ gG := gG1 142 rfl rfl
theorem w_143 : (Cond.methodLink "TapeCounter" 115 ⟨"TapeCounter", "tosses", "(LTapeCounter$Tape;I)I"⟩ : Cond) ∈ gG := gG1 143 rfl rfl
theorem w_144 : (Cond.static ⟨"TapeCounter", "tosses", "(LTapeCounter$Tape;I)I"⟩ : Cond) ∈ gG := gG1 144 rfl rfl
theorem w_145 : (Cond.code ⟨"TapeCounter", "tosses", "(LTapeCounter$Tape;I)I"⟩ prog_1_method_22_code 5 (some .int) : Cond) ∈ gG := gG1 145 rfl rfl
theorem w_146 : (Cond.methodLink "TapeCounter" 118 ⟨"TapeCounter", "zerosBeforeOne", "(LTapeCounter$Tape;I)I"⟩ : Cond) ∈ gG := gG1 146 rfl rfl
theorem w_147 : (Cond.static ⟨"TapeCounter", "zerosBeforeOne", "(LTapeCounter$Tape;I)I"⟩ : Cond) ∈ gG := gG1 147 rfl rfl
theorem w_148 : (Cond.code ⟨"TapeCounter", "zerosBeforeOne", "(LTapeCounter$Tape;I)I"⟩ prog_1_method_23_code 4 (some .int) : Cond) ∈ gG := gG1 148 rfl rfl
theorem w_149 : (Cond.methodLink "TapeCounter" 121 ⟨"TapeCounter", "order", "(LTapeCounter$Tape;I)I"⟩ : Cond) ∈ gG := gG1 149 rfl rfl
theorem w_151 : (Cond.instanceMethod ⟨"TapeCounter", "order", "(LTapeCounter$Tape;I)I"⟩ : Cond) ∈ gG := gG1 151 rfl rfl
theorem w_152 : (Cond.code ⟨"TapeCounter", "order", "(LTapeCounter$Tape;I)I"⟩ prog_1_method_24_code 6 (some .int) : Cond) ∈ gG := gG1 152 rfl rfl
theorem w_153 : (Cond.methodLink "TapeCounter" 141 ⟨"TapeCounter", "ordersBeforeRow", "(I)I"⟩ : Cond) ∈ gG := gG1 153 rfl rfl
theorem w_155 : (Cond.instanceMethod ⟨"TapeCounter", "ordersBeforeRow", "(I)I"⟩ : Cond) ∈ gG := gG1 155 rfl rfl
theorem w_156 : (Cond.code ⟨"TapeCounter", "ordersBeforeRow", "(I)I"⟩ prog_1_method_25_code 6 (some .int) : Cond) ∈ gG := gG1 156 rfl rfl
theorem w_157 : (Cond.methodLink "TapeCounter" 124 ⟨"TapeCounter", "choice", "(LTapeCounter$Tape;II)I"⟩ : Cond) ∈ gG := gG1 157 rfl rfl
theorem w_158 : (Cond.static ⟨"TapeCounter", "choice", "(LTapeCounter$Tape;II)I"⟩ : Cond) ∈ gG := gG1 158 rfl rfl
theorem w_159 : (Cond.code ⟨"TapeCounter", "choice", "(LTapeCounter$Tape;II)I"⟩ prog_1_method_26_code 7 (some .int) : Cond) ∈ gG := gG1 159 rfl rfl
theorem w_160 : (Cond.methodLink "TapeCounter" 127 ⟨"TapeCounter", "share", "(LTapeCounter$Tape;)I"⟩ : Cond) ∈ gG := gG1 160 rfl rfl
theorem w_162 : (Cond.instanceMethod ⟨"TapeCounter", "share", "(LTapeCounter$Tape;)I"⟩ : Cond) ∈ gG := gG1 162 rfl rfl
theorem w_163 : (Cond.code ⟨"TapeCounter", "share", "(LTapeCounter$Tape;)I"⟩ prog_1_method_27_code 5 (some .int) : Cond) ∈ gG := gG1 163 rfl rfl
theorem w_164 : (Cond.methodLink "TapeCounter" 64 ⟨"TapeCounter$Tape", "readSoFar", "()I"⟩ : Cond) ∈ gG := gG1 164 rfl rfl
theorem w_165 : (Cond.instanceMethod ⟨"TapeCounter$Tape", "readSoFar", "()I"⟩ : Cond) ∈ gG := gG1 165 rfl rfl
theorem w_166 : (Cond.selects "TapeCounter$Tape" ⟨"TapeCounter$Tape", "readSoFar", "()I"⟩ ⟨"TapeCounter$Tape", "readSoFar", "()I"⟩ : Cond) ∈ gG := gG1 166 rfl rfl
theorem w_167 : (Cond.code ⟨"TapeCounter$Tape", "readSoFar", "()I"⟩ prog_3_method_3_code 1 (some .int) : Cond) ∈ gG := gG1 167 rfl rfl
theorem w_168 : (Cond.methodLink "TapeCounter" 67 ⟨"TapeCounter$Tape", "dropRead", "()V"⟩ : Cond) ∈ gG := gG1 168 rfl rfl
theorem w_169 : (Cond.instanceMethod ⟨"TapeCounter$Tape", "dropRead", "()V"⟩ : Cond) ∈ gG := gG1 169 rfl rfl
theorem w_170 : (Cond.selects "TapeCounter$Tape" ⟨"TapeCounter$Tape", "dropRead", "()V"⟩ ⟨"TapeCounter$Tape", "dropRead", "()V"⟩ : Cond) ∈ gG := gG1 170 rfl rfl
theorem w_171 : (Cond.code ⟨"TapeCounter$Tape", "dropRead", "()V"⟩ prog_3_method_9_code 1 none : Cond) ∈ gG := gG1 171 rfl rfl
theorem w_172 : (Cond.methodLink "TapeCounter$Tape" 26 ⟨"java/lang/System", "arraycopy", "(Ljava/lang/Object;ILjava/lang/Object;II)V"⟩ : Cond) ∈ gG := gG1 172 rfl rfl
theorem w_173 : (Cond.static ⟨"java/lang/System", "arraycopy", "(Ljava/lang/Object;ILjava/lang/Object;II)V"⟩ : Cond) ∈ gG := gG1 173 rfl rfl
theorem w_174 : (Cond.native ⟨"java/lang/System", "arraycopy", "(Ljava/lang/Object;ILjava/lang/Object;II)V"⟩ : Cond) ∈ gG := gG1 174 rfl rfl
theorem w_175 : (Cond.methodLink "TapeCounterLaw" 43 ⟨"TapeCounter", "spent", "()I"⟩ : Cond) ∈ gG := gG1 175 rfl rfl
theorem w_176 : (Cond.instanceMethod ⟨"TapeCounter", "spent", "()I"⟩ : Cond) ∈ gG := gG1 176 rfl rfl
theorem w_177 : (Cond.selects "TapeCounter" ⟨"TapeCounter", "spent", "()I"⟩ ⟨"TapeCounter", "spent", "()I"⟩ : Cond) ∈ gG := gG1 177 rfl rfl
theorem w_178 : (Cond.code ⟨"TapeCounter", "spent", "()I"⟩ prog_1_method_8_code 1 (some .int) : Cond) ∈ gG := gG1 178 rfl rfl
theorem w_179 : (Cond.methodLink "TapeCounterLaw" 47 ⟨"TapeCounter", "count", "(IIIII)I"⟩ : Cond) ∈ gG := gG1 179 rfl rfl
theorem w_180 : (Cond.instanceMethod ⟨"TapeCounter", "count", "(IIIII)I"⟩ : Cond) ∈ gG := gG1 180 rfl rfl
theorem w_181 : (Cond.selects "TapeCounter" ⟨"TapeCounter", "count", "(IIIII)I"⟩ ⟨"TapeCounter", "count", "(IIIII)I"⟩ : Cond) ∈ gG := gG1 181 rfl rfl
theorem w_182 : (Cond.code ⟨"TapeCounter", "count", "(IIIII)I"⟩ prog_1_method_9_code 6 (some .int) : Cond) ∈ gG := gG1 182 rfl rfl
theorem w_183 : (Cond.methodLink "TapeCounter" 70 ⟨"TapeCounter", "isCountable", "(IIII)Z"⟩ : Cond) ∈ gG := gG1 183 rfl rfl
theorem w_185 : (Cond.instanceMethod ⟨"TapeCounter", "isCountable", "(IIII)Z"⟩ : Cond) ∈ gG := gG1 185 rfl rfl
theorem w_186 : (Cond.code ⟨"TapeCounter", "isCountable", "(IIII)Z"⟩ prog_1_method_14_code 5 (some .boolean) : Cond) ∈ gG := gG1 186 rfl rfl
theorem w_187 : (Cond.methodLink "TapeCounter" 74 ⟨"TapeCounter", "tryAllTapes", "(IIIII)V"⟩ : Cond) ∈ gG := gG1 187 rfl rfl
theorem w_189 : (Cond.instanceMethod ⟨"TapeCounter", "tryAllTapes", "(IIIII)V"⟩ : Cond) ∈ gG := gG1 189 rfl rfl
theorem w_190 : (Cond.code ⟨"TapeCounter", "tryAllTapes", "(IIIII)V"⟩ prog_1_method_16_code 10 none : Cond) ∈ gG := gG1 190 rfl rfl
theorem w_191 : (Cond.methodLink "TapeCounter" 90 ⟨"TapeCounter$Tally", "clear", "()V"⟩ : Cond) ∈ gG := gG1 191 rfl rfl
theorem w_192 : (Cond.instanceMethod ⟨"TapeCounter$Tally", "clear", "()V"⟩ : Cond) ∈ gG := gG1 192 rfl rfl
theorem w_193 : (Cond.selects "TapeCounter$Tally" ⟨"TapeCounter$Tally", "clear", "()V"⟩ ⟨"TapeCounter$Tally", "clear", "()V"⟩ : Cond) ∈ gG := gG1 193 rfl rfl
theorem w_194 : (Cond.code ⟨"TapeCounter$Tally", "clear", "()V"⟩ prog_2_method_2_code 1 none : Cond) ∈ gG := gG1 194 rfl rfl
theorem w_195 : (Cond.methodLink "TapeCounter" 93 ⟨"TapeCounter$Tape", "clear", "()V"⟩ : Cond) ∈ gG := gG1 195 rfl rfl
theorem w_196 : (Cond.instanceMethod ⟨"TapeCounter$Tape", "clear", "()V"⟩ : Cond) ∈ gG := gG1 196 rfl rfl
theorem w_197 : (Cond.selects "TapeCounter$Tape" ⟨"TapeCounter$Tape", "clear", "()V"⟩ ⟨"TapeCounter$Tape", "clear", "()V"⟩ : Cond) ∈ gG := gG1 197 rfl rfl
theorem w_198 : (Cond.code ⟨"TapeCounter$Tape", "clear", "()V"⟩ prog_3_method_4_code 1 none : Cond) ∈ gG := gG1 198 rfl rfl
theorem w_199 : (Cond.methodLink "TapeCounter" 94 ⟨"TapeCounter$Tally", "add", "(IIII)V"⟩ : Cond) ∈ gG := gG1 199 rfl rfl
theorem w_200 : (Cond.instanceMethod ⟨"TapeCounter$Tally", "add", "(IIII)V"⟩ : Cond) ∈ gG := gG1 200 rfl rfl
theorem w_201 : (Cond.selects "TapeCounter$Tally" ⟨"TapeCounter$Tally", "add", "(IIII)V"⟩ ⟨"TapeCounter$Tally", "add", "(IIII)V"⟩ : Cond) ∈ gG := gG1 201 rfl rfl
theorem w_202 : (Cond.code ⟨"TapeCounter$Tally", "add", "(IIII)V"⟩ prog_2_method_3_code 5 none : Cond) ∈ gG := gG1 202 rfl rfl
theorem w_203 : (Cond.methodLink "TapeCounter$Tally" 24 ⟨"java/lang/Math", "min", "(II)I"⟩ : Cond) ∈ gG := gG1 203 rfl rfl
theorem w_204 : (Cond.static ⟨"java/lang/Math", "min", "(II)I"⟩ : Cond) ∈ gG := gG1 204 rfl rfl
theorem w_205 : (Cond.code ⟨"java/lang/Math", "min", "(II)I"⟩ prog_6_method_69_code 2 (some .int) : Cond) ∈ gG := gG1 205 rfl rfl
theorem w_206 : (Cond.methodLink "TapeCounter" 98 ⟨"java/lang/Math", "max", "(II)I"⟩ : Cond) ∈ gG := gG1 206 rfl rfl
theorem w_207 : (Cond.static ⟨"java/lang/Math", "max", "(II)I"⟩ : Cond) ∈ gG := gG1 207 rfl rfl
theorem w_208 : (Cond.code ⟨"java/lang/Math", "max", "(II)I"⟩ prog_6_method_65_code 2 (some .int) : Cond) ∈ gG := gG1 208 rfl rfl
theorem w_209 : (Cond.methodLink "TapeCounterLaw" 52 ⟨"TapeCounter", "fails", "(IIII)I"⟩ : Cond) ∈ gG := gG1 209 rfl rfl
theorem w_210 : (Cond.instanceMethod ⟨"TapeCounter", "fails", "(IIII)I"⟩ : Cond) ∈ gG := gG1 210 rfl rfl
theorem w_211 : (Cond.selects "TapeCounter" ⟨"TapeCounter", "fails", "(IIII)I"⟩ ⟨"TapeCounter", "fails", "(IIII)I"⟩ : Cond) ∈ gG := gG1 211 rfl rfl
theorem w_212 : (Cond.code ⟨"TapeCounter", "fails", "(IIII)I"⟩ prog_1_method_10_code 5 (some .int) : Cond) ∈ gG := gG1 212 rfl rfl
theorem w_213 : (Cond.methodLink "TapeCounterLaw" 57 ⟨"TapeCounter", "work", "(IIII)I"⟩ : Cond) ∈ gG := gG1 213 rfl rfl
theorem w_214 : (Cond.instanceMethod ⟨"TapeCounter", "work", "(IIII)I"⟩ : Cond) ∈ gG := gG1 214 rfl rfl
theorem w_215 : (Cond.selects "TapeCounter" ⟨"TapeCounter", "work", "(IIII)I"⟩ ⟨"TapeCounter", "work", "(IIII)I"⟩ : Cond) ∈ gG := gG1 215 rfl rfl
theorem w_216 : (Cond.code ⟨"TapeCounter", "work", "(IIII)I"⟩ prog_1_method_11_code 5 (some .int) : Cond) ∈ gG := gG1 216 rfl rfl
theorem w_217 : (Cond.methodLink "TapeCounterLaw" 61 ⟨"TapeCounter", "first", "(IIII)I"⟩ : Cond) ∈ gG := gG1 217 rfl rfl
theorem w_218 : (Cond.instanceMethod ⟨"TapeCounter", "first", "(IIII)I"⟩ : Cond) ∈ gG := gG1 218 rfl rfl
theorem w_219 : (Cond.selects "TapeCounter" ⟨"TapeCounter", "first", "(IIII)I"⟩ ⟨"TapeCounter", "first", "(IIII)I"⟩ : Cond) ∈ gG := gG1 219 rfl rfl
theorem w_220 : (Cond.code ⟨"TapeCounter", "first", "(IIII)I"⟩ prog_1_method_12_code 5 (some .int) : Cond) ∈ gG := gG1 220 rfl rfl
theorem w_221 : (Cond.classLink "TapeCounterLaw" 10 "TapeCounterModel" : Cond) ∈ gG := gG1 221 rfl rfl
theorem w_222 : (Cond.instantiable "TapeCounterModel" 12 : Cond) ∈ gG := gG1 222 rfl rfl
theorem w_223 : (Cond.methodLink "TapeCounterLaw" 12 ⟨"TapeCounterModel", "<init>", "()V"⟩ : Cond) ∈ gG := gG1 223 rfl rfl
theorem w_224 : (Cond.instanceMethod ⟨"TapeCounterModel", "<init>", "()V"⟩ : Cond) ∈ gG := gG1 224 rfl rfl
theorem w_225 : (Cond.code ⟨"TapeCounterModel", "<init>", "()V"⟩ prog_5_method_1_code 2 none : Cond) ∈ gG := gG1 225 rfl rfl
theorem w_226 : (Cond.methodLink "TapeCounterModel" 1 ⟨"java/lang/Object", "<init>", "()V"⟩ : Cond) ∈ gG := gG1 226 rfl rfl
theorem w_227 : (Cond.fieldLink "TapeCounterModel" 7 "TapeCounterModel" "weights" "[I" : Cond) ∈ gG := gG1 227 rfl rfl
theorem w_228 : (Cond.fieldLink "TapeCounterModel" 13 "TapeCounterModel" "tape" "[I" : Cond) ∈ gG := gG1 228 rfl rfl
theorem w_229 : (Cond.fieldLink "TapeCounterModel" 22 "TapeCounterModel" "length" "I" : Cond) ∈ gG := gG1 229 rfl rfl
theorem w_230 : (Cond.fieldLink "TapeCounterModel" 71 "TapeCounterModel" "spent" "I" : Cond) ∈ gG := gG1 230 rfl rfl
theorem w_231 : (Cond.fieldLink "TapeCounterModel" 16 "TapeCounterModel" "bits" "[I" : Cond) ∈ gG := gG1 231 rfl rfl
theorem w_232 : (Cond.fieldLink "TapeCounterModel" 33 "TapeCounterModel" "many" "I" : Cond) ∈ gG := gG1 232 rfl rfl
theorem w_233 : (Cond.fieldLink "TapeCounterModel" 30 "TapeCounterModel" "at" "I" : Cond) ∈ gG := gG1 233 rfl rfl
theorem w_234 : (Cond.fieldLink "TapeCounterModel" 36 "TapeCounterModel" "isOut" "Z" : Cond) ∈ gG := gG1 234 rfl rfl
theorem w_235 : (Cond.fieldLink "TapeCounterModel" 19 "TapeCounterModel" "row" "[I" : Cond) ∈ gG := gG1 235 rfl rfl
theorem w_236 : (Cond.fieldLink "TapeCounterModel" 74 "TapeCounterModel" "values" "I" : Cond) ∈ gG := gG1 236 rfl rfl
theorem w_237 : (Cond.fieldLink "TapeCounterModel" 77 "TapeCounterModel" "failures" "I" : Cond) ∈ gG := gG1 237 rfl rfl
theorem w_238 : (Cond.fieldLink "TapeCounterModel" 80 "TapeCounterModel" "works" "I" : Cond) ∈ gG := gG1 238 rfl rfl
theorem w_239 : (Cond.laysFinal "TapeCounterModel" "TapeCounterModel" "weights" "[I" : Cond) ∈ gG := gG1 239 rfl rfl
theorem w_241 : (Cond.laysFinal "TapeCounterModel" "TapeCounterModel" "tape" "[I" : Cond) ∈ gG := gG2 1 rfl rfl
theorem w_243 : (Cond.lays "TapeCounterModel" "TapeCounterModel" "length" "I" : Cond) ∈ gG := gG2 3 rfl rfl
theorem w_245 : (Cond.lays "TapeCounterModel" "TapeCounterModel" "spent" "I" : Cond) ∈ gG := gG2 5 rfl rfl
theorem w_247 : (Cond.laysFinal "TapeCounterModel" "TapeCounterModel" "bits" "[I" : Cond) ∈ gG := gG2 7 rfl rfl
theorem w_249 : (Cond.lays "TapeCounterModel" "TapeCounterModel" "many" "I" : Cond) ∈ gG := gG2 9 rfl rfl
theorem w_251 : (Cond.lays "TapeCounterModel" "TapeCounterModel" "at" "I" : Cond) ∈ gG := gG2 11 rfl rfl
theorem w_253 : (Cond.lays "TapeCounterModel" "TapeCounterModel" "isOut" "Z" : Cond) ∈ gG := gG2 13 rfl rfl
theorem w_255 : (Cond.laysFinal "TapeCounterModel" "TapeCounterModel" "row" "[I" : Cond) ∈ gG := gG2 15 rfl rfl
theorem w_257 : (Cond.lays "TapeCounterModel" "TapeCounterModel" "values" "I" : Cond) ∈ gG := gG2 17 rfl rfl
theorem w_259 : (Cond.lays "TapeCounterModel" "TapeCounterModel" "failures" "I" : Cond) ∈ gG := gG2 19 rfl rfl
theorem w_261 : (Cond.lays "TapeCounterModel" "TapeCounterModel" "works" "I" : Cond) ∈ gG := gG2 21 rfl rfl
theorem w_264 : (Cond.methodLink "TapeCounterLaw" 17 ⟨"TapeCounterModel", "weigh", "(II)Z"⟩ : Cond) ∈ gG := gG2 24 rfl rfl
theorem w_265 : (Cond.instanceMethod ⟨"TapeCounterModel", "weigh", "(II)Z"⟩ : Cond) ∈ gG := gG2 25 rfl rfl
theorem w_266 : (Cond.selects "TapeCounterModel" ⟨"TapeCounterModel", "weigh", "(II)Z"⟩ ⟨"TapeCounterModel", "weigh", "(II)Z"⟩ : Cond) ∈ gG := gG2 26 rfl rfl
theorem w_267 : (Cond.code ⟨"TapeCounterModel", "weigh", "(II)Z"⟩ prog_5_method_3_code 3 (some .boolean) : Cond) ∈ gG := gG2 27 rfl rfl
theorem w_268 : (Cond.methodLink "TapeCounterLaw" 22 ⟨"TapeCounterModel", "weight", "(I)I"⟩ : Cond) ∈ gG := gG2 28 rfl rfl
theorem w_269 : (Cond.instanceMethod ⟨"TapeCounterModel", "weight", "(I)I"⟩ : Cond) ∈ gG := gG2 29 rfl rfl
theorem w_270 : (Cond.selects "TapeCounterModel" ⟨"TapeCounterModel", "weight", "(I)I"⟩ ⟨"TapeCounterModel", "weight", "(I)I"⟩ : Cond) ∈ gG := gG2 30 rfl rfl
theorem w_271 : (Cond.code ⟨"TapeCounterModel", "weight", "(I)I"⟩ prog_5_method_4_code 2 (some .int) : Cond) ∈ gG := gG2 31 rfl rfl
theorem w_272 : (Cond.methodLink "TapeCounterLaw" 27 ⟨"TapeCounterModel", "feed", "(II)I"⟩ : Cond) ∈ gG := gG2 32 rfl rfl
theorem w_273 : (Cond.instanceMethod ⟨"TapeCounterModel", "feed", "(II)I"⟩ : Cond) ∈ gG := gG2 33 rfl rfl
theorem w_274 : (Cond.selects "TapeCounterModel" ⟨"TapeCounterModel", "feed", "(II)I"⟩ ⟨"TapeCounterModel", "feed", "(II)I"⟩ : Cond) ∈ gG := gG2 34 rfl rfl
theorem w_275 : (Cond.code ⟨"TapeCounterModel", "feed", "(II)I"⟩ prog_5_method_5_code 4 (some .int) : Cond) ∈ gG := gG2 35 rfl rfl
theorem w_276 : (Cond.methodLink "TapeCounterLaw" 32 ⟨"TapeCounterModel", "left", "()I"⟩ : Cond) ∈ gG := gG2 36 rfl rfl
theorem w_277 : (Cond.instanceMethod ⟨"TapeCounterModel", "left", "()I"⟩ : Cond) ∈ gG := gG2 37 rfl rfl
theorem w_278 : (Cond.selects "TapeCounterModel" ⟨"TapeCounterModel", "left", "()I"⟩ ⟨"TapeCounterModel", "left", "()I"⟩ : Cond) ∈ gG := gG2 38 rfl rfl
theorem w_279 : (Cond.code ⟨"TapeCounterModel", "left", "()I"⟩ prog_5_method_6_code 1 (some .int) : Cond) ∈ gG := gG2 39 rfl rfl
theorem w_280 : (Cond.methodLink "TapeCounterLaw" 37 ⟨"TapeCounterModel", "isOne", "(III)Z"⟩ : Cond) ∈ gG := gG2 40 rfl rfl
theorem w_281 : (Cond.instanceMethod ⟨"TapeCounterModel", "isOne", "(III)Z"⟩ : Cond) ∈ gG := gG2 41 rfl rfl
theorem w_282 : (Cond.selects "TapeCounterModel" ⟨"TapeCounterModel", "isOne", "(III)Z"⟩ ⟨"TapeCounterModel", "isOne", "(III)Z"⟩ : Cond) ∈ gG := gG2 42 rfl rfl
theorem w_283 : (Cond.code ⟨"TapeCounterModel", "isOne", "(III)Z"⟩ prog_5_method_8_code 4 (some .boolean) : Cond) ∈ gG := gG2 43 rfl rfl
theorem w_284 : (Cond.methodLink "TapeCounterModel" 26 ⟨"TapeCounterModel", "sum", "()I"⟩ : Cond) ∈ gG := gG2 44 rfl rfl
theorem w_286 : (Cond.instanceMethod ⟨"TapeCounterModel", "sum", "()I"⟩ : Cond) ∈ gG := gG2 46 rfl rfl
theorem w_287 : (Cond.code ⟨"TapeCounterModel", "sum", "()I"⟩ prog_5_method_7_code 3 (some .int) : Cond) ∈ gG := gG2 47 rfl rfl
theorem w_288 : (Cond.methodLink "TapeCounterLaw" 42 ⟨"TapeCounterModel", "draw", "(III)I"⟩ : Cond) ∈ gG := gG2 48 rfl rfl
theorem w_289 : (Cond.instanceMethod ⟨"TapeCounterModel", "draw", "(III)I"⟩ : Cond) ∈ gG := gG2 49 rfl rfl
theorem w_290 : (Cond.selects "TapeCounterModel" ⟨"TapeCounterModel", "draw", "(III)I"⟩ ⟨"TapeCounterModel", "draw", "(III)I"⟩ : Cond) ∈ gG := gG2 50 rfl rfl
theorem w_291 : (Cond.code ⟨"TapeCounterModel", "draw", "(III)I"⟩ prog_5_method_17_code 6 (some .int) : Cond) ∈ gG := gG2 51 rfl rfl
theorem w_292 : (Cond.methodLink "TapeCounterModel" 63 ⟨"TapeCounterModel", "isOne", "(III)Z"⟩ : Cond) ∈ gG := gG2 52 rfl rfl
theorem w_293 : (Cond.methodLink "TapeCounterModel" 67 ⟨"TapeCounterModel", "run", "(III)I"⟩ : Cond) ∈ gG := gG2 53 rfl rfl
theorem w_295 : (Cond.instanceMethod ⟨"TapeCounterModel", "run", "(III)I"⟩ : Cond) ∈ gG := gG2 55 rfl rfl
theorem w_296 : (Cond.code ⟨"TapeCounterModel", "run", "(III)I"⟩ prog_5_method_16_code 6 (some .int) : Cond) ∈ gG := gG2 56 rfl rfl
theorem w_297 : (Cond.methodLink "TapeCounterModel" 43 ⟨"TapeCounterModel", "plain", "(I)I"⟩ : Cond) ∈ gG := gG2 57 rfl rfl
theorem w_299 : (Cond.instanceMethod ⟨"TapeCounterModel", "plain", "(I)I"⟩ : Cond) ∈ gG := gG2 59 rfl rfl
theorem w_300 : (Cond.code ⟨"TapeCounterModel", "plain", "(I)I"⟩ prog_5_method_10_code 4 (some .int) : Cond) ∈ gG := gG2 60 rfl rfl
theorem w_301 : (Cond.methodLink "TapeCounterModel" 40 ⟨"TapeCounterModel", "bit", "()I"⟩ : Cond) ∈ gG := gG2 61 rfl rfl
theorem w_303 : (Cond.instanceMethod ⟨"TapeCounterModel", "bit", "()I"⟩ : Cond) ∈ gG := gG2 63 rfl rfl
theorem w_304 : (Cond.code ⟨"TapeCounterModel", "bit", "()I"⟩ prog_5_method_9_code 1 (some .int) : Cond) ∈ gG := gG2 64 rfl rfl
theorem w_305 : (Cond.methodLink "TapeCounterModel" 51 ⟨"TapeCounterModel", "thrifty", "(I)I"⟩ : Cond) ∈ gG := gG2 65 rfl rfl
theorem w_307 : (Cond.instanceMethod ⟨"TapeCounterModel", "thrifty", "(I)I"⟩ : Cond) ∈ gG := gG2 67 rfl rfl
theorem w_308 : (Cond.code ⟨"TapeCounterModel", "thrifty", "(I)I"⟩ prog_5_method_11_code 4 (some .int) : Cond) ∈ gG := gG2 68 rfl rfl
theorem w_309 : (Cond.methodLink "TapeCounterModel" 47 ⟨"TapeCounterModel", "coin", "(II)I"⟩ : Cond) ∈ gG := gG2 69 rfl rfl
theorem w_311 : (Cond.instanceMethod ⟨"TapeCounterModel", "coin", "(II)I"⟩ : Cond) ∈ gG := gG2 71 rfl rfl
theorem w_312 : (Cond.code ⟨"TapeCounterModel", "coin", "(II)I"⟩ prog_5_method_12_code 6 (some .int) : Cond) ∈ gG := gG2 72 rfl rfl
theorem w_313 : (Cond.methodLink "TapeCounterModel" 54 ⟨"TapeCounterModel", "order", "(I)I"⟩ : Cond) ∈ gG := gG2 73 rfl rfl
theorem w_315 : (Cond.instanceMethod ⟨"TapeCounterModel", "order", "(I)I"⟩ : Cond) ∈ gG := gG2 75 rfl rfl
theorem w_316 : (Cond.code ⟨"TapeCounterModel", "order", "(I)I"⟩ prog_5_method_13_code 7 (some .int) : Cond) ∈ gG := gG2 76 rfl rfl
theorem w_317 : (Cond.methodLink "TapeCounterModel" 57 ⟨"TapeCounterModel", "choice", "(II)I"⟩ : Cond) ∈ gG := gG2 77 rfl rfl
theorem w_319 : (Cond.instanceMethod ⟨"TapeCounterModel", "choice", "(II)I"⟩ : Cond) ∈ gG := gG2 79 rfl rfl
theorem w_320 : (Cond.code ⟨"TapeCounterModel", "choice", "(II)I"⟩ prog_5_method_14_code 6 (some .int) : Cond) ∈ gG := gG2 80 rfl rfl
theorem w_321 : (Cond.methodLink "TapeCounterModel" 60 ⟨"TapeCounterModel", "share", "()I"⟩ : Cond) ∈ gG := gG2 81 rfl rfl
theorem w_323 : (Cond.instanceMethod ⟨"TapeCounterModel", "share", "()I"⟩ : Cond) ∈ gG := gG2 83 rfl rfl
theorem w_324 : (Cond.code ⟨"TapeCounterModel", "share", "()I"⟩ prog_5_method_15_code 4 (some .int) : Cond) ∈ gG := gG2 84 rfl rfl
theorem w_325 : (Cond.methodLink "TapeCounterLaw" 46 ⟨"TapeCounterModel", "spent", "()I"⟩ : Cond) ∈ gG := gG2 85 rfl rfl
theorem w_326 : (Cond.instanceMethod ⟨"TapeCounterModel", "spent", "()I"⟩ : Cond) ∈ gG := gG2 86 rfl rfl
theorem w_327 : (Cond.selects "TapeCounterModel" ⟨"TapeCounterModel", "spent", "()I"⟩ ⟨"TapeCounterModel", "spent", "()I"⟩ : Cond) ∈ gG := gG2 87 rfl rfl
theorem w_328 : (Cond.code ⟨"TapeCounterModel", "spent", "()I"⟩ prog_5_method_18_code 1 (some .int) : Cond) ∈ gG := gG2 88 rfl rfl
theorem w_329 : (Cond.methodLink "TapeCounterLaw" 51 ⟨"TapeCounterModel", "count", "(IIIII)I"⟩ : Cond) ∈ gG := gG2 89 rfl rfl
theorem w_330 : (Cond.instanceMethod ⟨"TapeCounterModel", "count", "(IIIII)I"⟩ : Cond) ∈ gG := gG2 90 rfl rfl
theorem w_331 : (Cond.selects "TapeCounterModel" ⟨"TapeCounterModel", "count", "(IIIII)I"⟩ ⟨"TapeCounterModel", "count", "(IIIII)I"⟩ : Cond) ∈ gG := gG2 91 rfl rfl
theorem w_332 : (Cond.code ⟨"TapeCounterModel", "count", "(IIIII)I"⟩ prog_5_method_21_code 6 (some .int) : Cond) ∈ gG := gG2 92 rfl rfl
theorem w_333 : (Cond.methodLink "TapeCounterModel" 83 ⟨"TapeCounterModel", "isAll", "(IIII)Z"⟩ : Cond) ∈ gG := gG2 93 rfl rfl
theorem w_335 : (Cond.instanceMethod ⟨"TapeCounterModel", "isAll", "(IIII)Z"⟩ : Cond) ∈ gG := gG2 95 rfl rfl
theorem w_336 : (Cond.code ⟨"TapeCounterModel", "isAll", "(IIII)Z"⟩ prog_5_method_20_code 5 (some .boolean) : Cond) ∈ gG := gG2 96 rfl rfl
theorem w_337 : (Cond.methodLink "TapeCounterModel" 87 ⟨"TapeCounterModel", "tryAll", "(IIIII)V"⟩ : Cond) ∈ gG := gG2 97 rfl rfl
theorem w_339 : (Cond.instanceMethod ⟨"TapeCounterModel", "tryAll", "(IIIII)V"⟩ : Cond) ∈ gG := gG2 99 rfl rfl
theorem w_340 : (Cond.code ⟨"TapeCounterModel", "tryAll", "(IIIII)V"⟩ prog_5_method_19_code 8 none : Cond) ∈ gG := gG2 100 rfl rfl
theorem w_341 : (Cond.methodLink "TapeCounterLaw" 56 ⟨"TapeCounterModel", "fails", "(IIII)I"⟩ : Cond) ∈ gG := gG2 101 rfl rfl
theorem w_342 : (Cond.instanceMethod ⟨"TapeCounterModel", "fails", "(IIII)I"⟩ : Cond) ∈ gG := gG2 102 rfl rfl
theorem w_343 : (Cond.selects "TapeCounterModel" ⟨"TapeCounterModel", "fails", "(IIII)I"⟩ ⟨"TapeCounterModel", "fails", "(IIII)I"⟩ : Cond) ∈ gG := gG2 103 rfl rfl
theorem w_344 : (Cond.code ⟨"TapeCounterModel", "fails", "(IIII)I"⟩ prog_5_method_22_code 5 (some .int) : Cond) ∈ gG := gG2 104 rfl rfl
theorem w_345 : (Cond.methodLink "TapeCounterLaw" 60 ⟨"TapeCounterModel", "work", "(IIII)I"⟩ : Cond) ∈ gG := gG2 105 rfl rfl
theorem w_346 : (Cond.instanceMethod ⟨"TapeCounterModel", "work", "(IIII)I"⟩ : Cond) ∈ gG := gG2 106 rfl rfl
theorem w_347 : (Cond.selects "TapeCounterModel" ⟨"TapeCounterModel", "work", "(IIII)I"⟩ ⟨"TapeCounterModel", "work", "(IIII)I"⟩ : Cond) ∈ gG := gG2 107 rfl rfl
theorem w_348 : (Cond.code ⟨"TapeCounterModel", "work", "(IIII)I"⟩ prog_5_method_23_code 5 (some .int) : Cond) ∈ gG := gG2 108 rfl rfl
theorem w_349 : (Cond.methodLink "TapeCounterLaw" 64 ⟨"TapeCounterModel", "first", "(IIII)I"⟩ : Cond) ∈ gG := gG2 109 rfl rfl
theorem w_350 : (Cond.instanceMethod ⟨"TapeCounterModel", "first", "(IIII)I"⟩ : Cond) ∈ gG := gG2 110 rfl rfl
theorem w_351 : (Cond.selects "TapeCounterModel" ⟨"TapeCounterModel", "first", "(IIII)I"⟩ ⟨"TapeCounterModel", "first", "(IIII)I"⟩ : Cond) ∈ gG := gG2 111 rfl rfl
theorem w_352 : (Cond.code ⟨"TapeCounterModel", "first", "(IIII)I"⟩ prog_5_method_24_code 6 (some .int) : Cond) ∈ gG := gG2 112 rfl rfl
theorem ws_1_0 : (Cond.selects "TapeCounter" ⟨"TapeCounter", "weightSum", "()I"⟩ ⟨"TapeCounter", "weightSum", "()I"⟩ : Cond) ∈ gG := gGs (q := (⟨"TapeCounter", "weightSum", "()I"⟩, 6)) (lw_r1_in 0 rfl) rfl
theorem ws_1_1 : (Cond.selects "TapeCounter" ⟨"TapeCounter", "sample", "(LTapeCounter$Tape;III)I"⟩ ⟨"TapeCounter", "sample", "(LTapeCounter$Tape;III)I"⟩ : Cond) ∈ gG := gGs (q := (⟨"TapeCounter", "sample", "(LTapeCounter$Tape;III)I"⟩, 6)) (lw_r1_in 1 rfl) rfl
theorem ws_1_2 : (Cond.selects "TapeCounter" ⟨"TapeCounter", "order", "(LTapeCounter$Tape;I)I"⟩ ⟨"TapeCounter", "order", "(LTapeCounter$Tape;I)I"⟩ : Cond) ∈ gG := gGs (q := (⟨"TapeCounter", "order", "(LTapeCounter$Tape;I)I"⟩, 6)) (lw_r1_in 2 rfl) rfl
theorem ws_1_3 : (Cond.selects "TapeCounter" ⟨"TapeCounter", "ordersBeforeRow", "(I)I"⟩ ⟨"TapeCounter", "ordersBeforeRow", "(I)I"⟩ : Cond) ∈ gG := gGs (q := (⟨"TapeCounter", "ordersBeforeRow", "(I)I"⟩, 6)) (lw_r1_in 3 rfl) rfl
theorem ws_1_4 : (Cond.selects "TapeCounter" ⟨"TapeCounter", "share", "(LTapeCounter$Tape;)I"⟩ ⟨"TapeCounter", "share", "(LTapeCounter$Tape;)I"⟩ : Cond) ∈ gG := gGs (q := (⟨"TapeCounter", "share", "(LTapeCounter$Tape;)I"⟩, 6)) (lw_r1_in 4 rfl) rfl
theorem ws_1_5 : (Cond.selects "TapeCounter" ⟨"TapeCounter", "isCountable", "(IIII)Z"⟩ ⟨"TapeCounter", "isCountable", "(IIII)Z"⟩ : Cond) ∈ gG := gGs (q := (⟨"TapeCounter", "isCountable", "(IIII)Z"⟩, 6)) (lw_r1_in 5 rfl) rfl
theorem ws_1_6 : (Cond.selects "TapeCounter" ⟨"TapeCounter", "tryAllTapes", "(IIIII)V"⟩ ⟨"TapeCounter", "tryAllTapes", "(IIIII)V"⟩ : Cond) ∈ gG := gGs (q := (⟨"TapeCounter", "tryAllTapes", "(IIIII)V"⟩, 6)) (lw_r1_in 6 rfl) rfl
theorem ws_1_7 : (Cond.selects "TapeCounterModel" ⟨"TapeCounterModel", "sum", "()I"⟩ ⟨"TapeCounterModel", "sum", "()I"⟩ : Cond) ∈ gG := gGs (q := (⟨"TapeCounterModel", "sum", "()I"⟩, 12)) (lw_r1_in 7 rfl) rfl
theorem ws_1_8 : (Cond.selects "TapeCounterModel" ⟨"TapeCounterModel", "run", "(III)I"⟩ ⟨"TapeCounterModel", "run", "(III)I"⟩ : Cond) ∈ gG := gGs (q := (⟨"TapeCounterModel", "run", "(III)I"⟩, 12)) (lw_r1_in 8 rfl) rfl
theorem ws_1_9 : (Cond.selects "TapeCounterModel" ⟨"TapeCounterModel", "plain", "(I)I"⟩ ⟨"TapeCounterModel", "plain", "(I)I"⟩ : Cond) ∈ gG := gGs (q := (⟨"TapeCounterModel", "plain", "(I)I"⟩, 12)) (lw_r1_in 9 rfl) rfl
theorem ws_1_10 : (Cond.selects "TapeCounterModel" ⟨"TapeCounterModel", "bit", "()I"⟩ ⟨"TapeCounterModel", "bit", "()I"⟩ : Cond) ∈ gG := gGs (q := (⟨"TapeCounterModel", "bit", "()I"⟩, 12)) (lw_r1_in 10 rfl) rfl
theorem ws_1_11 : (Cond.selects "TapeCounterModel" ⟨"TapeCounterModel", "thrifty", "(I)I"⟩ ⟨"TapeCounterModel", "thrifty", "(I)I"⟩ : Cond) ∈ gG := gGs (q := (⟨"TapeCounterModel", "thrifty", "(I)I"⟩, 12)) (lw_r1_in 11 rfl) rfl
theorem ws_1_12 : (Cond.selects "TapeCounterModel" ⟨"TapeCounterModel", "coin", "(II)I"⟩ ⟨"TapeCounterModel", "coin", "(II)I"⟩ : Cond) ∈ gG := gGs (q := (⟨"TapeCounterModel", "coin", "(II)I"⟩, 12)) (lw_r1_in 12 rfl) rfl
theorem ws_1_13 : (Cond.selects "TapeCounterModel" ⟨"TapeCounterModel", "order", "(I)I"⟩ ⟨"TapeCounterModel", "order", "(I)I"⟩ : Cond) ∈ gG := gGs (q := (⟨"TapeCounterModel", "order", "(I)I"⟩, 12)) (lw_r1_in 13 rfl) rfl
theorem ws_1_14 : (Cond.selects "TapeCounterModel" ⟨"TapeCounterModel", "choice", "(II)I"⟩ ⟨"TapeCounterModel", "choice", "(II)I"⟩ : Cond) ∈ gG := gGs (q := (⟨"TapeCounterModel", "choice", "(II)I"⟩, 12)) (lw_r1_in 14 rfl) rfl
theorem ws_1_15 : (Cond.selects "TapeCounterModel" ⟨"TapeCounterModel", "share", "()I"⟩ ⟨"TapeCounterModel", "share", "()I"⟩ : Cond) ∈ gG := gGs (q := (⟨"TapeCounterModel", "share", "()I"⟩, 12)) (lw_r1_in 15 rfl) rfl
theorem ws_2_0 : (Cond.selects "TapeCounterModel" ⟨"TapeCounterModel", "isAll", "(IIII)Z"⟩ ⟨"TapeCounterModel", "isAll", "(IIII)Z"⟩ : Cond) ∈ gG := gGs (q := (⟨"TapeCounterModel", "isAll", "(IIII)Z"⟩, 12)) (lw_r2_in 0 rfl) rfl
theorem ws_2_1 : (Cond.selects "TapeCounterModel" ⟨"TapeCounterModel", "tryAll", "(IIIII)V"⟩ ⟨"TapeCounterModel", "tryAll", "(IIIII)V"⟩ : Cond) ∈ gG := gGs (q := (⟨"TapeCounterModel", "tryAll", "(IIIII)V"⟩, 12)) (lw_r2_in 1 rfl) rfl
def gN : List Cond := [Cond.methodLinkNest "TapeCounter" 30 ⟨"TapeCounter$Tally", "<init>", "()V"⟩ "TapeCounter", Cond.fieldLinkNest "TapeCounter" 78 "TapeCounter$Tally" "hits" "I" "TapeCounter", Cond.fieldLinkNest "TapeCounter" 81 "TapeCounter$Tally" "runOuts" "I" "TapeCounter", Cond.fieldLinkNest "TapeCounter" 84 "TapeCounter$Tally" "bitsRead" "I" "TapeCounter", Cond.fieldLinkNest "TapeCounter" 87 "TapeCounter$Tally" "fewestBits" "I" "TapeCounter"]
theorem gN_0 : (Cond.methodLinkNest "TapeCounter" 30 ⟨"TapeCounter$Tally", "<init>", "()V"⟩ "TapeCounter" : Cond) ∈ gN := List.mem_of_getElem? (i := 0) rfl
theorem gN_1 : (Cond.fieldLinkNest "TapeCounter" 78 "TapeCounter$Tally" "hits" "I" "TapeCounter" : Cond) ∈ gN := List.mem_of_getElem? (i := 1) rfl
theorem gN_2 : (Cond.fieldLinkNest "TapeCounter" 81 "TapeCounter$Tally" "runOuts" "I" "TapeCounter" : Cond) ∈ gN := List.mem_of_getElem? (i := 2) rfl
theorem gN_3 : (Cond.fieldLinkNest "TapeCounter" 84 "TapeCounter$Tally" "bitsRead" "I" "TapeCounter" : Cond) ∈ gN := List.mem_of_getElem? (i := 3) rfl
theorem gN_4 : (Cond.fieldLinkNest "TapeCounter" 87 "TapeCounter$Tally" "fewestBits" "I" "TapeCounter" : Cond) ∈ gN := List.mem_of_getElem? (i := 4) rfl
def gNest (U : State) : Prop := ∀ w ∈ gN, va_Nw w U
theorem gNest.warm {s U : State} (hW : s.WarmedH U.vm) (h : gNest s) : gNest U := by
  intro w hw
  have h1 := h w hw
  simp only [gN, List.mem_cons, List.not_mem_nil, or_false] at hw
  rcases hw with rfl | rfl | rfl | rfl | rfl
  · exact va_Nw.warmM hW h1
  · exact va_Nw.warmF hW h1
  · exact va_Nw.warmF hW h1
  · exact va_Nw.warmF hW h1
  · exact va_Nw.warmF hW h1
theorem gNest.same {u U : State} (e : u.vm = U.vm) (h : gNest u) : gNest U := by
  intro w hw
  have h1 := h w hw
  simp only [gN, List.mem_cons, List.not_mem_nil, or_false] at hw
  rcases hw with rfl | rfl | rfl | rfl | rfl <;> exact va_Nw.same rfl e h1
theorem gN_tab : ∀ w ∈ gN, w ∈ tables_1 := by
  intro w hw
  simp only [gN, List.mem_cons, List.not_mem_nil, or_false] at hw
  rcases hw with rfl | rfl | rfl | rfl | rfl
  · exact w_34
  · exact w_39
  · exact w_41
  · exact w_43
  · exact w_45
def TfY : u_T := fun k => match k with
  | 0 => ("TapeCounter$Tally", "hits", "I", false)
  | 1 => ("TapeCounter$Tally", "runOuts", "I", false)
  | 2 => ("TapeCounter$Tally", "bitsRead", "I", false)
  | _ => ("TapeCounter$Tally", "fewestBits", "I", false)
def TyY : Nat → FieldType := fun k => match k with
  | 0 => .int
  | 1 => .int
  | 2 => .int
  | _ => .int
theorem nmY : ∀ a, a < 4 → ∀ b, b < 4 → a ≠ b → (TfY a).2.1 ≠ (TfY b).2.1 := by decide +kernel
theorem tyY : ∀ k, k < 4 → parseFieldDescriptor (TfY k).2.2.1 = some (TyY k) := by decide +kernel
theorem inY : ∀ w ∈ u_ws "TapeCounter$Tally" TfY 4, w ∈ gG := (List.forall_mem_cons.mpr ⟨w_46, List.forall_mem_cons.mpr ⟨w_48, List.forall_mem_cons.mpr ⟨w_50, List.forall_mem_cons.mpr ⟨w_52, fun _ h => absurd h List.not_mem_nil⟩⟩⟩⟩ : ∀ w ∈ ([(.lays "TapeCounter$Tally" "TapeCounter$Tally" "hits" "I"), (.lays "TapeCounter$Tally" "TapeCounter$Tally" "runOuts" "I"), (.lays "TapeCounter$Tally" "TapeCounter$Tally" "bitsRead" "I"), (.lays "TapeCounter$Tally" "TapeCounter$Tally" "fewestBits" "I")] : List Cond), w ∈ gG)
def TfT : u_T := fun k => match k with
  | 0 => ("TapeCounter$Tape", "bits", "[I", true)
  | 1 => ("TapeCounter$Tape", "size", "I", false)
  | _ => ("TapeCounter$Tape", "at", "I", false)
def TyT : Nat → FieldType := fun k => match k with
  | 0 => .array .int
  | 1 => .int
  | _ => .int
theorem nmT : ∀ a, a < 3 → ∀ b, b < 3 → a ≠ b → (TfT a).2.1 ≠ (TfT b).2.1 := by decide +kernel
theorem tyT : ∀ k, k < 3 → parseFieldDescriptor (TfT k).2.2.1 = some (TyT k) := by decide +kernel
theorem inT : ∀ w ∈ u_ws "TapeCounter$Tape" TfT 3, w ∈ gG := (List.forall_mem_cons.mpr ⟨w_24, List.forall_mem_cons.mpr ⟨w_26, List.forall_mem_cons.mpr ⟨w_28, fun _ h => absurd h List.not_mem_nil⟩⟩⟩ : ∀ w ∈ ([(.laysFinal "TapeCounter$Tape" "TapeCounter$Tape" "bits" "[I"), (.lays "TapeCounter$Tape" "TapeCounter$Tape" "size" "I"), (.lays "TapeCounter$Tape" "TapeCounter$Tape" "at" "I")] : List Cond), w ∈ gG)
def TfC : u_T := fun k => match k with
  | 0 => ("TapeCounter", "weights", "[I", true)
  | 1 => ("TapeCounter", "row", "[I", true)
  | 2 => ("TapeCounter", "tape", "LTapeCounter$Tape;", true)
  | 3 => ("TapeCounter", "trial", "LTapeCounter$Tape;", true)
  | 4 => ("TapeCounter", "tally", "LTapeCounter$Tally;", true)
  | _ => ("TapeCounter", "latestSpent", "I", false)
def TyC : Nat → FieldType := fun k => match k with
  | 0 => .array .int
  | 1 => .array .int
  | 2 => .object "TapeCounter$Tape"
  | 3 => .object "TapeCounter$Tape"
  | 4 => .object "TapeCounter$Tally"
  | _ => .int
theorem nmC : ∀ a, a < 6 → ∀ b, b < 6 → a ≠ b → (TfC a).2.1 ≠ (TfC b).2.1 := by decide +kernel
theorem tyC : ∀ k, k < 6 → parseFieldDescriptor (TfC k).2.2.1 = some (TyC k) := by decide +kernel
theorem inC : ∀ w ∈ u_ws "TapeCounter" TfC 6, w ∈ gG := (List.forall_mem_cons.mpr ⟨w_61, List.forall_mem_cons.mpr ⟨w_63, List.forall_mem_cons.mpr ⟨w_65, List.forall_mem_cons.mpr ⟨w_67, List.forall_mem_cons.mpr ⟨w_69, List.forall_mem_cons.mpr ⟨w_71, fun _ h => absurd h List.not_mem_nil⟩⟩⟩⟩⟩⟩ : ∀ w ∈ ([(.laysFinal "TapeCounter" "TapeCounter" "weights" "[I"), (.laysFinal "TapeCounter" "TapeCounter" "row" "[I"), (.laysFinal "TapeCounter" "TapeCounter" "tape" "LTapeCounter$Tape;"), (.laysFinal "TapeCounter" "TapeCounter" "trial" "LTapeCounter$Tape;"), (.laysFinal "TapeCounter" "TapeCounter" "tally" "LTapeCounter$Tally;"), (.lays "TapeCounter" "TapeCounter" "latestSpent" "I")] : List Cond), w ∈ gG)
def TfM : u_T := fun k => match k with
  | 0 => ("TapeCounterModel", "weights", "[I", true)
  | 1 => ("TapeCounterModel", "tape", "[I", true)
  | 2 => ("TapeCounterModel", "length", "I", false)
  | 3 => ("TapeCounterModel", "spent", "I", false)
  | 4 => ("TapeCounterModel", "bits", "[I", true)
  | 5 => ("TapeCounterModel", "many", "I", false)
  | 6 => ("TapeCounterModel", "at", "I", false)
  | 7 => ("TapeCounterModel", "isOut", "Z", false)
  | 8 => ("TapeCounterModel", "row", "[I", true)
  | 9 => ("TapeCounterModel", "values", "I", false)
  | 10 => ("TapeCounterModel", "failures", "I", false)
  | _ => ("TapeCounterModel", "works", "I", false)
def TyM : Nat → FieldType := fun k => match k with
  | 0 => .array .int
  | 1 => .array .int
  | 2 => .int
  | 3 => .int
  | 4 => .array .int
  | 5 => .int
  | 6 => .int
  | 7 => .boolean
  | 8 => .array .int
  | 9 => .int
  | 10 => .int
  | _ => .int
theorem nmM : ∀ a, a < 12 → ∀ b, b < 12 → a ≠ b → (TfM a).2.1 ≠ (TfM b).2.1 := by decide +kernel
theorem tyM : ∀ k, k < 12 → parseFieldDescriptor (TfM k).2.2.1 = some (TyM k) := by decide +kernel
theorem inM : ∀ w ∈ u_ws "TapeCounterModel" TfM 12, w ∈ gG := (List.forall_mem_cons.mpr ⟨w_239, List.forall_mem_cons.mpr ⟨w_241, List.forall_mem_cons.mpr ⟨w_243, List.forall_mem_cons.mpr ⟨w_245, List.forall_mem_cons.mpr ⟨w_247, List.forall_mem_cons.mpr ⟨w_249, List.forall_mem_cons.mpr ⟨w_251, List.forall_mem_cons.mpr ⟨w_253, List.forall_mem_cons.mpr ⟨w_255, List.forall_mem_cons.mpr ⟨w_257, List.forall_mem_cons.mpr ⟨w_259, List.forall_mem_cons.mpr ⟨w_261, fun _ h => absurd h List.not_mem_nil⟩⟩⟩⟩⟩⟩⟩⟩⟩⟩⟩⟩ : ∀ w ∈ ([(.laysFinal "TapeCounterModel" "TapeCounterModel" "weights" "[I"), (.laysFinal "TapeCounterModel" "TapeCounterModel" "tape" "[I"), (.lays "TapeCounterModel" "TapeCounterModel" "length" "I"), (.lays "TapeCounterModel" "TapeCounterModel" "spent" "I"), (.laysFinal "TapeCounterModel" "TapeCounterModel" "bits" "[I"), (.lays "TapeCounterModel" "TapeCounterModel" "many" "I"), (.lays "TapeCounterModel" "TapeCounterModel" "at" "I"), (.lays "TapeCounterModel" "TapeCounterModel" "isOut" "Z"), (.laysFinal "TapeCounterModel" "TapeCounterModel" "row" "[I"), (.lays "TapeCounterModel" "TapeCounterModel" "values" "I"), (.lays "TapeCounterModel" "TapeCounterModel" "failures" "I"), (.lays "TapeCounterModel" "TapeCounterModel" "works" "I")] : List Cond), w ∈ gG)
abbrev gCl : List vw_C := [("TapeCounter$Tally", TfY, 4), ("TapeCounter$Tape", TfT, 3), ("TapeCounter", TfC, 6), ("TapeCounterModel", TfM, 12)]
abbrev b_C_init : ByteArray := prog_1_method_1_code
abbrev y_C_init : MethodName := ⟨"TapeCounter", "<init>", "()V"⟩
abbrev b_C_weigh : ByteArray := prog_1_method_2_code
abbrev y_C_weigh : MethodName := ⟨"TapeCounter", "weigh", "(II)Z"⟩
abbrev b_C_weight : ByteArray := prog_1_method_3_code
abbrev y_C_weight : MethodName := ⟨"TapeCounter", "weight", "(I)I"⟩
abbrev b_C_feed : ByteArray := prog_1_method_4_code
abbrev y_C_feed : MethodName := ⟨"TapeCounter", "feed", "(II)I"⟩
abbrev b_C_left : ByteArray := prog_1_method_5_code
abbrev y_C_left : MethodName := ⟨"TapeCounter", "left", "()I"⟩
abbrev b_C_isOne : ByteArray := prog_1_method_6_code
abbrev y_C_isOne : MethodName := ⟨"TapeCounter", "isOne", "(III)Z"⟩
abbrev b_C_draw : ByteArray := prog_1_method_7_code
abbrev y_C_draw : MethodName := ⟨"TapeCounter", "draw", "(III)I"⟩
abbrev b_C_spent : ByteArray := prog_1_method_8_code
abbrev y_C_spent : MethodName := ⟨"TapeCounter", "spent", "()I"⟩
abbrev b_C_count : ByteArray := prog_1_method_9_code
abbrev y_C_count : MethodName := ⟨"TapeCounter", "count", "(IIIII)I"⟩
abbrev b_C_fails : ByteArray := prog_1_method_10_code
abbrev y_C_fails : MethodName := ⟨"TapeCounter", "fails", "(IIII)I"⟩
abbrev b_C_work : ByteArray := prog_1_method_11_code
abbrev y_C_work : MethodName := ⟨"TapeCounter", "work", "(IIII)I"⟩
abbrev b_C_first : ByteArray := prog_1_method_12_code
abbrev y_C_first : MethodName := ⟨"TapeCounter", "first", "(IIII)I"⟩
abbrev b_C_isWithin : ByteArray := prog_1_method_13_code
abbrev y_C_isWithin : MethodName := ⟨"TapeCounter", "isWithin", "(III)Z"⟩
abbrev b_C_isCountable : ByteArray := prog_1_method_14_code
abbrev y_C_isCountable : MethodName := ⟨"TapeCounter", "isCountable", "(IIII)Z"⟩
abbrev b_C_weightSum : ByteArray := prog_1_method_15_code
abbrev y_C_weightSum : MethodName := ⟨"TapeCounter", "weightSum", "()I"⟩
abbrev b_C_tryAllTapes : ByteArray := prog_1_method_16_code
abbrev y_C_tryAllTapes : MethodName := ⟨"TapeCounter", "tryAllTapes", "(IIIII)V"⟩
abbrev b_C_sample : ByteArray := prog_1_method_17_code
abbrev y_C_sample : MethodName := ⟨"TapeCounter", "sample", "(LTapeCounter$Tape;III)I"⟩
abbrev b_C_plain : ByteArray := prog_1_method_18_code
abbrev y_C_plain : MethodName := ⟨"TapeCounter", "plain", "(LTapeCounter$Tape;I)I"⟩
abbrev b_C_bitsFor : ByteArray := prog_1_method_19_code
abbrev y_C_bitsFor : MethodName := ⟨"TapeCounter", "bitsFor", "(I)I"⟩
abbrev b_C_thrifty : ByteArray := prog_1_method_20_code
abbrev y_C_thrifty : MethodName := ⟨"TapeCounter", "thrifty", "(LTapeCounter$Tape;I)I"⟩
abbrev b_C_coin : ByteArray := prog_1_method_21_code
abbrev y_C_coin : MethodName := ⟨"TapeCounter", "coin", "(LTapeCounter$Tape;II)I"⟩
abbrev b_C_tosses : ByteArray := prog_1_method_22_code
abbrev y_C_tosses : MethodName := ⟨"TapeCounter", "tosses", "(LTapeCounter$Tape;I)I"⟩
abbrev b_C_zerosBeforeOne : ByteArray := prog_1_method_23_code
abbrev y_C_zerosBeforeOne : MethodName := ⟨"TapeCounter", "zerosBeforeOne", "(LTapeCounter$Tape;I)I"⟩
abbrev b_C_order : ByteArray := prog_1_method_24_code
abbrev y_C_order : MethodName := ⟨"TapeCounter", "order", "(LTapeCounter$Tape;I)I"⟩
abbrev b_C_ordersBeforeRow : ByteArray := prog_1_method_25_code
abbrev y_C_ordersBeforeRow : MethodName := ⟨"TapeCounter", "ordersBeforeRow", "(I)I"⟩
abbrev b_C_choice : ByteArray := prog_1_method_26_code
abbrev y_C_choice : MethodName := ⟨"TapeCounter", "choice", "(LTapeCounter$Tape;II)I"⟩
abbrev b_C_share : ByteArray := prog_1_method_27_code
abbrev y_C_share : MethodName := ⟨"TapeCounter", "share", "(LTapeCounter$Tape;)I"⟩
abbrev b_M_init : ByteArray := prog_5_method_1_code
abbrev y_M_init : MethodName := ⟨"TapeCounterModel", "<init>", "()V"⟩
abbrev b_M_weigh : ByteArray := prog_5_method_3_code
abbrev y_M_weigh : MethodName := ⟨"TapeCounterModel", "weigh", "(II)Z"⟩
abbrev b_M_weight : ByteArray := prog_5_method_4_code
abbrev y_M_weight : MethodName := ⟨"TapeCounterModel", "weight", "(I)I"⟩
abbrev b_M_feed : ByteArray := prog_5_method_5_code
abbrev y_M_feed : MethodName := ⟨"TapeCounterModel", "feed", "(II)I"⟩
abbrev b_M_left : ByteArray := prog_5_method_6_code
abbrev y_M_left : MethodName := ⟨"TapeCounterModel", "left", "()I"⟩
abbrev b_M_sum : ByteArray := prog_5_method_7_code
abbrev y_M_sum : MethodName := ⟨"TapeCounterModel", "sum", "()I"⟩
abbrev b_M_isOne : ByteArray := prog_5_method_8_code
abbrev y_M_isOne : MethodName := ⟨"TapeCounterModel", "isOne", "(III)Z"⟩
abbrev b_M_bit : ByteArray := prog_5_method_9_code
abbrev y_M_bit : MethodName := ⟨"TapeCounterModel", "bit", "()I"⟩
abbrev b_M_plain : ByteArray := prog_5_method_10_code
abbrev y_M_plain : MethodName := ⟨"TapeCounterModel", "plain", "(I)I"⟩
abbrev b_M_thrifty : ByteArray := prog_5_method_11_code
abbrev y_M_thrifty : MethodName := ⟨"TapeCounterModel", "thrifty", "(I)I"⟩
abbrev b_M_coin : ByteArray := prog_5_method_12_code
abbrev y_M_coin : MethodName := ⟨"TapeCounterModel", "coin", "(II)I"⟩
abbrev b_M_order : ByteArray := prog_5_method_13_code
abbrev y_M_order : MethodName := ⟨"TapeCounterModel", "order", "(I)I"⟩
abbrev b_M_choice : ByteArray := prog_5_method_14_code
abbrev y_M_choice : MethodName := ⟨"TapeCounterModel", "choice", "(II)I"⟩
abbrev b_M_share : ByteArray := prog_5_method_15_code
abbrev y_M_share : MethodName := ⟨"TapeCounterModel", "share", "()I"⟩
abbrev b_M_run : ByteArray := prog_5_method_16_code
abbrev y_M_run : MethodName := ⟨"TapeCounterModel", "run", "(III)I"⟩
abbrev b_M_draw : ByteArray := prog_5_method_17_code
abbrev y_M_draw : MethodName := ⟨"TapeCounterModel", "draw", "(III)I"⟩
abbrev b_M_spent : ByteArray := prog_5_method_18_code
abbrev y_M_spent : MethodName := ⟨"TapeCounterModel", "spent", "()I"⟩
abbrev b_M_tryAll : ByteArray := prog_5_method_19_code
abbrev y_M_tryAll : MethodName := ⟨"TapeCounterModel", "tryAll", "(IIIII)V"⟩
abbrev b_M_isAll : ByteArray := prog_5_method_20_code
abbrev y_M_isAll : MethodName := ⟨"TapeCounterModel", "isAll", "(IIII)Z"⟩
abbrev b_M_count : ByteArray := prog_5_method_21_code
abbrev y_M_count : MethodName := ⟨"TapeCounterModel", "count", "(IIIII)I"⟩
abbrev b_M_fails : ByteArray := prog_5_method_22_code
abbrev y_M_fails : MethodName := ⟨"TapeCounterModel", "fails", "(IIII)I"⟩
abbrev b_M_work : ByteArray := prog_5_method_23_code
abbrev y_M_work : MethodName := ⟨"TapeCounterModel", "work", "(IIII)I"⟩
abbrev b_M_first : ByteArray := prog_5_method_24_code
abbrev y_M_first : MethodName := ⟨"TapeCounterModel", "first", "(IIII)I"⟩
abbrev b_Y_init : ByteArray := prog_2_method_1_code
abbrev y_Y_init : MethodName := ⟨"TapeCounter$Tally", "<init>", "()V"⟩
abbrev b_Y_clear : ByteArray := prog_2_method_2_code
abbrev y_Y_clear : MethodName := ⟨"TapeCounter$Tally", "clear", "()V"⟩
abbrev b_Y_add : ByteArray := prog_2_method_3_code
abbrev y_Y_add : MethodName := ⟨"TapeCounter$Tally", "add", "(IIII)V"⟩
abbrev b_T_init : ByteArray := prog_3_method_1_code
abbrev y_T_init : MethodName := ⟨"TapeCounter$Tape", "<init>", "(I)V"⟩
abbrev b_T_size : ByteArray := prog_3_method_2_code
abbrev y_T_size : MethodName := ⟨"TapeCounter$Tape", "size", "()I"⟩
abbrev b_T_readSoFar : ByteArray := prog_3_method_3_code
abbrev y_T_readSoFar : MethodName := ⟨"TapeCounter$Tape", "readSoFar", "()I"⟩
abbrev b_T_clear : ByteArray := prog_3_method_4_code
abbrev y_T_clear : MethodName := ⟨"TapeCounter$Tape", "clear", "()V"⟩
abbrev b_T_rewind : ByteArray := prog_3_method_5_code
abbrev y_T_rewind : MethodName := ⟨"TapeCounter$Tape", "rewind", "()V"⟩
abbrev b_T_append : ByteArray := prog_3_method_6_code
abbrev y_T_append : MethodName := ⟨"TapeCounter$Tape", "append", "(II)Z"⟩
abbrev b_T_readBit : ByteArray := prog_3_method_7_code
abbrev y_T_readBit : MethodName := ⟨"TapeCounter$Tape", "readBit", "()I"⟩
abbrev b_T_readNumber : ByteArray := prog_3_method_8_code
abbrev y_T_readNumber : MethodName := ⟨"TapeCounter$Tape", "readNumber", "(I)I"⟩
abbrev b_T_dropRead : ByteArray := prog_3_method_9_code
abbrev y_T_dropRead : MethodName := ⟨"TapeCounter$Tape", "dropRead", "()V"⟩
abbrev b_L_law : ByteArray := code
abbrev y_L_law : MethodName := ⟨"TapeCounterLaw", "law", "([I)Z"⟩
